theorem dX0_init_0 : decode cX0_init 0 = .ok (.aload_n 0, 1) := by decide +kernel
theorem dX0_init_1 : decode cX0_init 1 = .ok (.invokespecial 3, 3) := by decide +kernel
theorem dX0_init_4 : decode cX0_init 4 = .ok (.return_, 1) := by decide +kernel
theorem dX0_tell_0 : decode cX0_tell 0 = .ok (.aload_n 0, 1) := by decide +kernel
theorem dX0_tell_1 : decode cX0_tell 1 = .ok (.iload_n 1, 1) := by decide +kernel
theorem dX0_tell_2 : decode cX0_tell 2 = .ok (.putfield 9, 3) := by decide +kernel
theorem dX0_tell_5 : decode cX0_tell 5 = .ok (.aload_n 0, 1) := by decide +kernel
theorem dX0_tell_6 : decode cX0_tell 6 = .ok (.iload_n 2, 1) := by decide +kernel
theorem dX0_tell_7 : decode cX0_tell 7 = .ok (.putfield 15, 3) := by decide +kernel
theorem dX0_tell_10 : decode cX0_tell 10 = .ok (.aload_n 0, 1) := by decide +kernel
theorem dX0_tell_11 : decode cX0_tell 11 = .ok (.iload_n 3, 1) := by decide +kernel
theorem dX0_tell_12 : decode cX0_tell 12 = .ok (.putfield 18, 3) := by decide +kernel
theorem dX0_tell_15 : decode cX0_tell 15 = .ok (.aload_n 0, 1) := by decide +kernel
theorem dX0_tell_16 : decode cX0_tell 16 = .ok (.iload 4, 2) := by decide +kernel
theorem dX0_tell_18 : decode cX0_tell 18 = .ok (.putfield 21, 3) := by decide +kernel
theorem dX0_tell_21 : decode cX0_tell 21 = .ok (.aload_n 0, 1) := by decide +kernel
theorem dX0_tell_22 : decode cX0_tell 22 = .ok (.iload 5, 2) := by decide +kernel
theorem dX0_tell_24 : decode cX0_tell 24 = .ok (.putfield 24, 3) := by decide +kernel
theorem dX0_tell_27 : decode cX0_tell 27 = .ok (.return_, 1) := by decide +kernel
theorem dX0_numberNow_0 : decode cX0_numberNow 0 = .ok (.aload_n 0, 1) := by decide +kernel
theorem dX0_numberNow_1 : decode cX0_numberNow 1 = .ok (.getfield 9, 3) := by decide +kernel
theorem dX0_numberNow_4 : decode cX0_numberNow 4 = .ok (.iconst 2, 1) := by decide +kernel
theorem dX0_numberNow_5 : decode cX0_numberNow 5 = .ok (.if_icmp .ne 7, 3) := by decide +kernel
theorem dX0_numberNow_8 : decode cX0_numberNow 8 = .ok (.iload_n 1, 1) := by decide +kernel
theorem dX0_numberNow_9 : decode cX0_numberNow 9 = .ok (.ifCond .ne 8, 3) := by decide +kernel
theorem dX0_numberNow_12 : decode cX0_numberNow 12 = .ok (.aload_n 0, 1) := by decide +kernel
theorem dX0_numberNow_13 : decode cX0_numberNow 13 = .ok (.getfield 15, 3) := by decide +kernel
theorem dX0_numberNow_16 : decode cX0_numberNow 16 = .ok (.ireturn, 1) := by decide +kernel
theorem dX0_numberNow_17 : decode cX0_numberNow 17 = .ok (.iconst 0, 1) := by decide +kernel
theorem dX0_numberNow_18 : decode cX0_numberNow 18 = .ok (.istore_n 2, 1) := by decide +kernel
theorem dX0_numberNow_19 : decode cX0_numberNow 19 = .ok (.aload_n 0, 1) := by decide +kernel
theorem dX0_numberNow_20 : decode cX0_numberNow 20 = .ok (.getfield 15, 3) := by decide +kernel
theorem dX0_numberNow_23 : decode cX0_numberNow 23 = .ok (.istore_n 3, 1) := by decide +kernel
theorem dX0_numberNow_24 : decode cX0_numberNow 24 = .ok (.iconst 0, 1) := by decide +kernel
theorem dX0_numberNow_25 : decode cX0_numberNow 25 = .ok (.istore 4, 2) := by decide +kernel
theorem dX0_numberNow_27 : decode cX0_numberNow 27 = .ok (.iload 4, 2) := by decide +kernel
theorem dX0_numberNow_29 : decode cX0_numberNow 29 = .ok (.iconst 3, 1) := by decide +kernel
theorem dX0_numberNow_30 : decode cX0_numberNow 30 = .ok (.if_icmp .ge 28, 3) := by decide +kernel
theorem dX0_numberNow_33 : decode cX0_numberNow 33 = .ok (.iload_n 3, 1) := by decide +kernel
theorem dX0_numberNow_34 : decode cX0_numberNow 34 = .ok (.ifCond .le 24, 3) := by decide +kernel
theorem dX0_numberNow_37 : decode cX0_numberNow 37 = .ok (.iload_n 2, 1) := by decide +kernel
theorem dX0_numberNow_38 : decode cX0_numberNow 38 = .ok (.bipush 10, 2) := by decide +kernel
theorem dX0_numberNow_40 : decode cX0_numberNow 40 = .ok (.imul, 1) := by decide +kernel
theorem dX0_numberNow_41 : decode cX0_numberNow 41 = .ok (.iload_n 3, 1) := by decide +kernel
theorem dX0_numberNow_42 : decode cX0_numberNow 42 = .ok (.bipush 10, 2) := by decide +kernel
theorem dX0_numberNow_44 : decode cX0_numberNow 44 = .ok (.irem, 1) := by decide +kernel
theorem dX0_numberNow_45 : decode cX0_numberNow 45 = .ok (.iadd, 1) := by decide +kernel
theorem dX0_numberNow_46 : decode cX0_numberNow 46 = .ok (.istore_n 2, 1) := by decide +kernel
theorem dX0_numberNow_47 : decode cX0_numberNow 47 = .ok (.iload_n 3, 1) := by decide +kernel
theorem dX0_numberNow_48 : decode cX0_numberNow 48 = .ok (.bipush 10, 2) := by decide +kernel
theorem dX0_numberNow_50 : decode cX0_numberNow 50 = .ok (.idiv, 1) := by decide +kernel
theorem dX0_numberNow_51 : decode cX0_numberNow 51 = .ok (.istore_n 3, 1) := by decide +kernel
theorem dX0_numberNow_52 : decode cX0_numberNow 52 = .ok (.iinc 4 1, 3) := by decide +kernel
theorem dX0_numberNow_55 : decode cX0_numberNow 55 = .ok (.goto (-28), 3) := by decide +kernel
theorem dX0_numberNow_58 : decode cX0_numberNow 58 = .ok (.iload_n 2, 1) := by decide +kernel
theorem dX0_numberNow_59 : decode cX0_numberNow 59 = .ok (.ireturn, 1) := by decide +kernel
theorem dX0_play_0 : decode cX0_play 0 = .ok (.aload_n 0, 1) := by decide +kernel
theorem dX0_play_1 : decode cX0_play 1 = .ok (.getfield 9, 3) := by decide +kernel
theorem dX0_play_4 : decode cX0_play 4 = .ok (.iconst 1, 1) := by decide +kernel
theorem dX0_play_5 : decode cX0_play 5 = .ok (.if_icmp .ne 7, 3) := by decide +kernel
theorem dX0_play_8 : decode cX0_play 8 = .ok (.iconst 1, 1) := by decide +kernel
theorem dX0_play_9 : decode cX0_play 9 = .ok (.goto 4, 3) := by decide +kernel
theorem dX0_play_12 : decode cX0_play 12 = .ok (.iconst 0, 1) := by decide +kernel
theorem dX0_play_13 : decode cX0_play 13 = .ok (.ireturn, 1) := by decide +kernel
theorem dX1_init_0 : decode cX1_init 0 = .ok (.aload_n 0, 1) := by decide +kernel
theorem dX1_init_1 : decode cX1_init 1 = .ok (.invokespecial 3, 3) := by decide +kernel
theorem dX1_init_4 : decode cX1_init 4 = .ok (.aload_n 0, 1) := by decide +kernel
theorem dX1_init_5 : decode cX1_init 5 = .ok (.getstatic 9, 3) := by decide +kernel
theorem dX1_init_8 : decode cX1_init 8 = .ok (.putfield 15, 3) := by decide +kernel
theorem dX1_init_11 : decode cX1_init 11 = .ok (.aload_n 0, 1) := by decide +kernel
theorem dX1_init_12 : decode cX1_init 12 = .ok (.iconst 4, 1) := by decide +kernel
theorem dX1_init_13 : decode cX1_init 13 = .ok (.newarray .int, 2) := by decide +kernel
theorem dX1_init_15 : decode cX1_init 15 = .ok (.putfield 20, 3) := by decide +kernel
theorem dX1_init_18 : decode cX1_init 18 = .ok (.return_, 1) := by decide +kernel
theorem dX2_init_0 : decode cX2_init 0 = .ok (.aload_n 0, 1) := by decide +kernel
theorem dX2_init_1 : decode cX2_init 1 = .ok (.invokespecial 3, 3) := by decide +kernel
theorem dX2_init_4 : decode cX2_init 4 = .ok (.aload_n 0, 1) := by decide +kernel
theorem dX2_init_5 : decode cX2_init 5 = .ok (.bipush 12, 2) := by decide +kernel
theorem dX2_init_7 : decode cX2_init 7 = .ok (.anewarray 9, 3) := by decide +kernel
theorem dX2_init_10 : decode cX2_init 10 = .ok (.putfield 11, 3) := by decide +kernel
theorem dX2_init_13 : decode cX2_init 13 = .ok (.aload_n 0, 1) := by decide +kernel
theorem dX2_init_14 : decode cX2_init 14 = .ok (.iconst 0, 1) := by decide +kernel
theorem dX2_init_15 : decode cX2_init 15 = .ok (.putfield 17, 3) := by decide +kernel
theorem dX2_init_18 : decode cX2_init 18 = .ok (.aload_n 0, 1) := by decide +kernel
theorem dX2_init_19 : decode cX2_init 19 = .ok (.iconst (-1), 1) := by decide +kernel
theorem dX2_init_20 : decode cX2_init 20 = .ok (.putfield 21, 3) := by decide +kernel
theorem dX2_init_23 : decode cX2_init 23 = .ok (.aload_n 0, 1) := by decide +kernel
theorem dX2_init_24 : decode cX2_init 24 = .ok (.aload_n 1, 1) := by decide +kernel
theorem dX2_init_25 : decode cX2_init 25 = .ok (.putfield 24, 3) := by decide +kernel
theorem dX2_init_28 : decode cX2_init 28 = .ok (.aload_n 0, 1) := by decide +kernel
theorem dX2_init_29 : decode cX2_init 29 = .ok (.aload_n 2, 1) := by decide +kernel
theorem dX2_init_30 : decode cX2_init 30 = .ok (.putfield 28, 3) := by decide +kernel
theorem dX2_init_33 : decode cX2_init 33 = .ok (.iconst 0, 1) := by decide +kernel
theorem dX2_init_34 : decode cX2_init 34 = .ok (.istore_n 3, 1) := by decide +kernel
theorem dX2_init_35 : decode cX2_init 35 = .ok (.iload_n 3, 1) := by decide +kernel
theorem dX2_init_36 : decode cX2_init 36 = .ok (.bipush 12, 2) := by decide +kernel
theorem dX2_init_38 : decode cX2_init 38 = .ok (.if_icmp .ge 22, 3) := by decide +kernel
theorem dX2_init_41 : decode cX2_init 41 = .ok (.aload_n 0, 1) := by decide +kernel
theorem dX2_init_42 : decode cX2_init 42 = .ok (.getfield 11, 3) := by decide +kernel
theorem dX2_init_45 : decode cX2_init 45 = .ok (.iload_n 3, 1) := by decide +kernel
theorem dX2_init_46 : decode cX2_init 46 = .ok (.new 9, 3) := by decide +kernel
theorem dX2_init_49 : decode cX2_init 49 = .ok (.dup, 1) := by decide +kernel
theorem dX2_init_50 : decode cX2_init 50 = .ok (.invokespecial 32, 3) := by decide +kernel
theorem dX2_init_53 : decode cX2_init 53 = .ok (.aastore, 1) := by decide +kernel
theorem dX2_init_54 : decode cX2_init 54 = .ok (.iinc 3 1, 3) := by decide +kernel
theorem dX2_init_57 : decode cX2_init 57 = .ok (.goto (-22), 3) := by decide +kernel
theorem dX2_init_60 : decode cX2_init 60 = .ok (.return_, 1) := by decide +kernel
theorem dX2_read_0 : decode cX2_read 0 = .ok (.aload_n 0, 1) := by decide +kernel
theorem dX2_read_1 : decode cX2_read 1 = .ok (.iconst 0, 1) := by decide +kernel
theorem dX2_read_2 : decode cX2_read 2 = .ok (.putfield 33, 3) := by decide +kernel
theorem dX2_read_5 : decode cX2_read 5 = .ok (.aload_n 0, 1) := by decide +kernel
theorem dX2_read_6 : decode cX2_read 6 = .ok (.iconst 0, 1) := by decide +kernel
theorem dX2_read_7 : decode cX2_read 7 = .ok (.putfield 17, 3) := by decide +kernel
theorem dX2_read_10 : decode cX2_read 10 = .ok (.aload_n 0, 1) := by decide +kernel
theorem dX2_read_11 : decode cX2_read 11 = .ok (.iconst (-1), 1) := by decide +kernel
theorem dX2_read_12 : decode cX2_read 12 = .ok (.putfield 21, 3) := by decide +kernel
theorem dX2_read_15 : decode cX2_read 15 = .ok (.aload_n 0, 1) := by decide +kernel
theorem dX2_read_16 : decode cX2_read 16 = .ok (.aload_n 0, 1) := by decide +kernel
theorem dX2_read_17 : decode cX2_read 17 = .ok (.getfield 28, 3) := by decide +kernel
theorem dX2_read_20 : decode cX2_read 20 = .ok (.getfield 36, 3) := by decide +kernel
theorem dX2_read_23 : decode cX2_read 23 = .ok (.putfield 41, 3) := by decide +kernel
theorem dX2_read_26 : decode cX2_read 26 = .ok (.aload_n 0, 1) := by decide +kernel
theorem dX2_read_27 : decode cX2_read 27 = .ok (.aload_n 0, 1) := by decide +kernel
theorem dX2_read_28 : decode cX2_read 28 = .ok (.getfield 28, 3) := by decide +kernel
theorem dX2_read_31 : decode cX2_read 31 = .ok (.getfield 44, 3) := by decide +kernel
theorem dX2_read_34 : decode cX2_read 34 = .ok (.putfield 47, 3) := by decide +kernel
theorem dX2_read_37 : decode cX2_read 37 = .ok (.aload_n 0, 1) := by decide +kernel
theorem dX2_read_38 : decode cX2_read 38 = .ok (.aload_n 0, 1) := by decide +kernel
theorem dX2_read_39 : decode cX2_read 39 = .ok (.getfield 28, 3) := by decide +kernel
theorem dX2_read_42 : decode cX2_read 42 = .ok (.getfield 48, 3) := by decide +kernel
theorem dX2_read_45 : decode cX2_read 45 = .ok (.putfield 51, 3) := by decide +kernel
theorem dX2_read_48 : decode cX2_read 48 = .ok (.iconst 1, 1) := by decide +kernel
theorem dX2_read_49 : decode cX2_read 49 = .ok (.istore_n 1, 1) := by decide +kernel
theorem dX2_read_50 : decode cX2_read 50 = .ok (.iconst 0, 1) := by decide +kernel
theorem dX2_read_51 : decode cX2_read 51 = .ok (.istore_n 2, 1) := by decide +kernel
theorem dX2_read_52 : decode cX2_read 52 = .ok (.iload_n 2, 1) := by decide +kernel
theorem dX2_read_53 : decode cX2_read 53 = .ok (.bipush 12, 2) := by decide +kernel
theorem dX2_read_55 : decode cX2_read 55 = .ok (.if_icmp .ge 39, 3) := by decide +kernel
theorem dX2_read_58 : decode cX2_read 58 = .ok (.iload_n 1, 1) := by decide +kernel
theorem dX2_read_59 : decode cX2_read 59 = .ok (.ifCond .eq 35, 3) := by decide +kernel
theorem dX2_read_62 : decode cX2_read 62 = .ok (.aload_n 0, 1) := by decide +kernel
theorem dX2_read_63 : decode cX2_read 63 = .ok (.aload_n 0, 1) := by decide +kernel
theorem dX2_read_64 : decode cX2_read 64 = .ok (.getfield 11, 3) := by decide +kernel
theorem dX2_read_67 : decode cX2_read 67 = .ok (.iload_n 2, 1) := by decide +kernel
theorem dX2_read_68 : decode cX2_read 68 = .ok (.aaload, 1) := by decide +kernel
theorem dX2_read_69 : decode cX2_read 69 = .ok (.invokevirtual 54, 3) := by decide +kernel
theorem dX2_read_72 : decode cX2_read 72 = .ok (.ifCond .eq 14, 3) := by decide +kernel
theorem dX2_read_75 : decode cX2_read 75 = .ok (.aload_n 0, 1) := by decide +kernel
theorem dX2_read_76 : decode cX2_read 76 = .ok (.invokevirtual 58, 3) := by decide +kernel
theorem dX2_read_79 : decode cX2_read 79 = .ok (.ifCond .eq 7, 3) := by decide +kernel
theorem dX2_read_82 : decode cX2_read 82 = .ok (.iconst 1, 1) := by decide +kernel
theorem dX2_read_83 : decode cX2_read 83 = .ok (.goto 4, 3) := by decide +kernel
theorem dX2_read_86 : decode cX2_read 86 = .ok (.iconst 0, 1) := by decide +kernel
theorem dX2_read_87 : decode cX2_read 87 = .ok (.istore_n 1, 1) := by decide +kernel
theorem dX2_read_88 : decode cX2_read 88 = .ok (.iinc 2 1, 3) := by decide +kernel
theorem dX2_read_91 : decode cX2_read 91 = .ok (.goto (-39), 3) := by decide +kernel
theorem dX2_read_94 : decode cX2_read 94 = .ok (.return_, 1) := by decide +kernel
theorem dX2_readLine_0 : decode cX2_readLine 0 = .ok (.aload_n 0, 1) := by decide +kernel
theorem dX2_readLine_1 : decode cX2_readLine 1 = .ok (.invokevirtual 62, 3) := by decide +kernel
theorem dX2_readLine_4 : decode cX2_readLine 4 = .ok (.aload_n 0, 1) := by decide +kernel
theorem dX2_readLine_5 : decode cX2_readLine 5 = .ok (.invokevirtual 65, 3) := by decide +kernel
theorem dX2_readLine_8 : decode cX2_readLine 8 = .ok (.astore_n 2, 1) := by decide +kernel
theorem dX2_readLine_9 : decode cX2_readLine 9 = .ok (.aload_n 2, 1) := by decide +kernel
theorem dX2_readLine_10 : decode cX2_readLine 10 = .ok (.ifnull 11, 3) := by decide +kernel
theorem dX2_readLine_13 : decode cX2_readLine 13 = .ok (.aload_n 0, 1) := by decide +kernel
theorem dX2_readLine_14 : decode cX2_readLine 14 = .ok (.aload_n 2, 1) := by decide +kernel
theorem dX2_readLine_15 : decode cX2_readLine 15 = .ok (.invokevirtual 69, 3) := by decide +kernel
theorem dX2_readLine_18 : decode cX2_readLine 18 = .ok (.ifCond .eq 8, 3) := by decide +kernel
theorem dX2_readLine_21 : decode cX2_readLine 21 = .ok (.aload_n 0, 1) := by decide +kernel
theorem dX2_readLine_22 : decode cX2_readLine 22 = .ok (.invokevirtual 73, 3) := by decide +kernel
theorem dX2_readLine_25 : decode cX2_readLine 25 = .ok (.ireturn, 1) := by decide +kernel
theorem dX2_readLine_26 : decode cX2_readLine 26 = .ok (.aload_n 1, 1) := by decide +kernel
theorem dX2_readLine_27 : decode cX2_readLine 27 = .ok (.aload_n 2, 1) := by decide +kernel
theorem dX2_readLine_28 : decode cX2_readLine 28 = .ok (.putfield 76, 3) := by decide +kernel
theorem dX2_readLine_31 : decode cX2_readLine 31 = .ok (.aload_n 2, 1) := by decide +kernel
theorem dX2_readLine_32 : decode cX2_readLine 32 = .ok (.getfield 80, 3) := by decide +kernel
theorem dX2_readLine_35 : decode cX2_readLine 35 = .ok (.invokevirtual 86, 3) := by decide +kernel
theorem dX2_readLine_38 : decode cX2_readLine 38 = .ok (.istore_n 3, 1) := by decide +kernel
theorem dX2_readLine_39 : decode cX2_readLine 39 = .ok (.iconst 0, 1) := by decide +kernel
theorem dX2_readLine_40 : decode cX2_readLine 40 = .ok (.istore 4, 2) := by decide +kernel
theorem dX2_readLine_42 : decode cX2_readLine 42 = .ok (.iload 4, 2) := by decide +kernel
theorem dX2_readLine_44 : decode cX2_readLine 44 = .ok (.iload_n 3, 1) := by decide +kernel
theorem dX2_readLine_45 : decode cX2_readLine 45 = .ok (.if_icmp .ge 57, 3) := by decide +kernel
theorem dX2_readLine_48 : decode cX2_readLine 48 = .ok (.iload 4, 2) := by decide +kernel
theorem dX2_readLine_50 : decode cX2_readLine 50 = .ok (.iconst 4, 1) := by decide +kernel
theorem dX2_readLine_51 : decode cX2_readLine 51 = .ok (.if_icmp .ge 51, 3) := by decide +kernel
theorem dX2_readLine_54 : decode cX2_readLine 54 = .ok (.aload_n 0, 1) := by decide +kernel
theorem dX2_readLine_55 : decode cX2_readLine 55 = .ok (.invokevirtual 62, 3) := by decide +kernel
theorem dX2_readLine_58 : decode cX2_readLine 58 = .ok (.aload_n 0, 1) := by decide +kernel
theorem dX2_readLine_59 : decode cX2_readLine 59 = .ok (.invokevirtual 92, 3) := by decide +kernel
theorem dX2_readLine_62 : decode cX2_readLine 62 = .ok (.istore 5, 2) := by decide +kernel
theorem dX2_readLine_64 : decode cX2_readLine 64 = .ok (.aload_n 0, 1) := by decide +kernel
theorem dX2_readLine_65 : decode cX2_readLine 65 = .ok (.aload_n 2, 1) := by decide +kernel
theorem dX2_readLine_66 : decode cX2_readLine 66 = .ok (.getfield 80, 3) := by decide +kernel
theorem dX2_readLine_69 : decode cX2_readLine 69 = .ok (.iload 4, 2) := by decide +kernel
theorem dX2_readLine_71 : decode cX2_readLine 71 = .ok (.invokevirtual 95, 3) := by decide +kernel
theorem dX2_readLine_74 : decode cX2_readLine 74 = .ok (.iload 5, 2) := by decide +kernel
theorem dX2_readLine_76 : decode cX2_readLine 76 = .ok (.invokevirtual 99, 3) := by decide +kernel
theorem dX2_readLine_79 : decode cX2_readLine 79 = .ok (.ifCond .ne 8, 3) := by decide +kernel
theorem dX2_readLine_82 : decode cX2_readLine 82 = .ok (.aload_n 0, 1) := by decide +kernel
theorem dX2_readLine_83 : decode cX2_readLine 83 = .ok (.invokevirtual 73, 3) := by decide +kernel
theorem dX2_readLine_86 : decode cX2_readLine 86 = .ok (.ireturn, 1) := by decide +kernel
theorem dX2_readLine_87 : decode cX2_readLine 87 = .ok (.aload_n 1, 1) := by decide +kernel
theorem dX2_readLine_88 : decode cX2_readLine 88 = .ok (.getfield 103, 3) := by decide +kernel
theorem dX2_readLine_91 : decode cX2_readLine 91 = .ok (.iload 4, 2) := by decide +kernel
theorem dX2_readLine_93 : decode cX2_readLine 93 = .ok (.iload 5, 2) := by decide +kernel
theorem dX2_readLine_95 : decode cX2_readLine 95 = .ok (.iastore, 1) := by decide +kernel
theorem dX2_readLine_96 : decode cX2_readLine 96 = .ok (.iinc 4 1, 3) := by decide +kernel
theorem dX2_readLine_99 : decode cX2_readLine 99 = .ok (.goto (-57), 3) := by decide +kernel
theorem dX2_readLine_102 : decode cX2_readLine 102 = .ok (.aload_n 0, 1) := by decide +kernel
theorem dX2_readLine_103 : decode cX2_readLine 103 = .ok (.dup, 1) := by decide +kernel
theorem dX2_readLine_104 : decode cX2_readLine 104 = .ok (.getfield 17, 3) := by decide +kernel
theorem dX2_readLine_107 : decode cX2_readLine 107 = .ok (.iconst 1, 1) := by decide +kernel
theorem dX2_readLine_108 : decode cX2_readLine 108 = .ok (.iadd, 1) := by decide +kernel
theorem dX2_readLine_109 : decode cX2_readLine 109 = .ok (.putfield 17, 3) := by decide +kernel
theorem dX2_readLine_112 : decode cX2_readLine 112 = .ok (.aload_n 0, 1) := by decide +kernel
theorem dX2_readLine_113 : decode cX2_readLine 113 = .ok (.aload_n 2, 1) := by decide +kernel
theorem dX2_readLine_114 : decode cX2_readLine 114 = .ok (.invokevirtual 107, 3) := by decide +kernel
theorem dX2_readLine_117 : decode cX2_readLine 117 = .ok (.iconst 1, 1) := by decide +kernel
theorem dX2_readLine_118 : decode cX2_readLine 118 = .ok (.ireturn, 1) := by decide +kernel
theorem dX2_readSemicolon_0 : decode cX2_readSemicolon 0 = .ok (.aload_n 0, 1) := by decide +kernel
theorem dX2_readSemicolon_1 : decode cX2_readSemicolon 1 = .ok (.invokevirtual 62, 3) := by decide +kernel
theorem dX2_readSemicolon_4 : decode cX2_readSemicolon 4 = .ok (.aload_n 0, 1) := by decide +kernel
theorem dX2_readSemicolon_5 : decode cX2_readSemicolon 5 = .ok (.getfield 111, 3) := by decide +kernel
theorem dX2_readSemicolon_8 : decode cX2_readSemicolon 8 = .ok (.iconst 3, 1) := by decide +kernel
theorem dX2_readSemicolon_9 : decode cX2_readSemicolon 9 = .ok (.if_icmp .ne 5, 3) := by decide +kernel
theorem dX2_readSemicolon_12 : decode cX2_readSemicolon 12 = .ok (.iconst 0, 1) := by decide +kernel
theorem dX2_readSemicolon_13 : decode cX2_readSemicolon 13 = .ok (.ireturn, 1) := by decide +kernel
theorem dX2_readSemicolon_14 : decode cX2_readSemicolon 14 = .ok (.aload_n 0, 1) := by decide +kernel
theorem dX2_readSemicolon_15 : decode cX2_readSemicolon 15 = .ok (.getfield 24, 3) := by decide +kernel
theorem dX2_readSemicolon_18 : decode cX2_readSemicolon 18 = .ok (.aload_n 0, 1) := by decide +kernel
theorem dX2_readSemicolon_19 : decode cX2_readSemicolon 19 = .ok (.getfield 114, 3) := by decide +kernel
theorem dX2_readSemicolon_22 : decode cX2_readSemicolon 22 = .ok (.invokevirtual 117, 3) := by decide +kernel
theorem dX2_readSemicolon_25 : decode cX2_readSemicolon 25 = .ok (.bipush 59, 2) := by decide +kernel
theorem dX2_readSemicolon_27 : decode cX2_readSemicolon 27 = .ok (.if_icmp .ne 12, 3) := by decide +kernel
theorem dX2_readSemicolon_30 : decode cX2_readSemicolon 30 = .ok (.aload_n 0, 1) := by decide +kernel
theorem dX2_readSemicolon_31 : decode cX2_readSemicolon 31 = .ok (.getfield 17, 3) := by decide +kernel
theorem dX2_readSemicolon_34 : decode cX2_readSemicolon 34 = .ok (.bipush 12, 2) := by decide +kernel
theorem dX2_readSemicolon_36 : decode cX2_readSemicolon 36 = .ok (.if_icmp .lt 8, 3) := by decide +kernel
theorem dX2_readSemicolon_39 : decode cX2_readSemicolon 39 = .ok (.aload_n 0, 1) := by decide +kernel
theorem dX2_readSemicolon_40 : decode cX2_readSemicolon 40 = .ok (.invokevirtual 73, 3) := by decide +kernel
theorem dX2_readSemicolon_43 : decode cX2_readSemicolon 43 = .ok (.ireturn, 1) := by decide +kernel
theorem dX2_readSemicolon_44 : decode cX2_readSemicolon 44 = .ok (.iconst 1, 1) := by decide +kernel
theorem dX2_readSemicolon_45 : decode cX2_readSemicolon 45 = .ok (.ireturn, 1) := by decide +kernel
theorem dX2_faultHere_0 : decode cX2_faultHere 0 = .ok (.aload_n 0, 1) := by decide +kernel
theorem dX2_faultHere_1 : decode cX2_faultHere 1 = .ok (.aload_n 0, 1) := by decide +kernel
theorem dX2_faultHere_2 : decode cX2_faultHere 2 = .ok (.getfield 114, 3) := by decide +kernel
theorem dX2_faultHere_5 : decode cX2_faultHere 5 = .ok (.putfield 21, 3) := by decide +kernel
theorem dX2_faultHere_8 : decode cX2_faultHere 8 = .ok (.iconst 0, 1) := by decide +kernel
theorem dX2_faultHere_9 : decode cX2_faultHere 9 = .ok (.ireturn, 1) := by decide +kernel
theorem dX2_nextToken_0 : decode cX2_nextToken 0 = .ok (.aload_n 0, 1) := by decide +kernel
theorem dX2_nextToken_1 : decode cX2_nextToken 1 = .ok (.aload_n 0, 1) := by decide +kernel
theorem dX2_nextToken_2 : decode cX2_nextToken 2 = .ok (.getfield 33, 3) := by decide +kernel
theorem dX2_nextToken_5 : decode cX2_nextToken 5 = .ok (.putfield 114, 3) := by decide +kernel
theorem dX2_nextToken_8 : decode cX2_nextToken 8 = .ok (.aload_n 0, 1) := by decide +kernel
theorem dX2_nextToken_9 : decode cX2_nextToken 9 = .ok (.getfield 114, 3) := by decide +kernel
theorem dX2_nextToken_12 : decode cX2_nextToken 12 = .ok (.aload_n 0, 1) := by decide +kernel
theorem dX2_nextToken_13 : decode cX2_nextToken 13 = .ok (.getfield 24, 3) := by decide +kernel
theorem dX2_nextToken_16 : decode cX2_nextToken 16 = .ok (.getfield 123, 3) := by decide +kernel
theorem dX2_nextToken_19 : decode cX2_nextToken 19 = .ok (.if_icmp .ge 32, 3) := by decide +kernel
theorem dX2_nextToken_22 : decode cX2_nextToken 22 = .ok (.aload_n 0, 1) := by decide +kernel
theorem dX2_nextToken_23 : decode cX2_nextToken 23 = .ok (.getfield 24, 3) := by decide +kernel
theorem dX2_nextToken_26 : decode cX2_nextToken 26 = .ok (.aload_n 0, 1) := by decide +kernel
theorem dX2_nextToken_27 : decode cX2_nextToken 27 = .ok (.getfield 114, 3) := by decide +kernel
theorem dX2_nextToken_30 : decode cX2_nextToken 30 = .ok (.invokevirtual 117, 3) := by decide +kernel
theorem dX2_nextToken_33 : decode cX2_nextToken 33 = .ok (.bipush 32, 2) := by decide +kernel
theorem dX2_nextToken_35 : decode cX2_nextToken 35 = .ok (.if_icmp .ne 16, 3) := by decide +kernel
theorem dX2_nextToken_38 : decode cX2_nextToken 38 = .ok (.aload_n 0, 1) := by decide +kernel
theorem dX2_nextToken_39 : decode cX2_nextToken 39 = .ok (.dup, 1) := by decide +kernel
theorem dX2_nextToken_40 : decode cX2_nextToken 40 = .ok (.getfield 114, 3) := by decide +kernel
theorem dX2_nextToken_43 : decode cX2_nextToken 43 = .ok (.iconst 1, 1) := by decide +kernel
theorem dX2_nextToken_44 : decode cX2_nextToken 44 = .ok (.iadd, 1) := by decide +kernel
theorem dX2_nextToken_45 : decode cX2_nextToken 45 = .ok (.putfield 114, 3) := by decide +kernel
theorem dX2_nextToken_48 : decode cX2_nextToken 48 = .ok (.goto (-40), 3) := by decide +kernel
theorem dX2_nextToken_51 : decode cX2_nextToken 51 = .ok (.aload_n 0, 1) := by decide +kernel
theorem dX2_nextToken_52 : decode cX2_nextToken 52 = .ok (.aload_n 0, 1) := by decide +kernel
theorem dX2_nextToken_53 : decode cX2_nextToken 53 = .ok (.getfield 114, 3) := by decide +kernel
theorem dX2_nextToken_56 : decode cX2_nextToken 56 = .ok (.putfield 33, 3) := by decide +kernel
theorem dX2_nextToken_59 : decode cX2_nextToken 59 = .ok (.aload_n 0, 1) := by decide +kernel
theorem dX2_nextToken_60 : decode cX2_nextToken 60 = .ok (.aload_n 0, 1) := by decide +kernel
theorem dX2_nextToken_61 : decode cX2_nextToken 61 = .ok (.aload_n 0, 1) := by decide +kernel
theorem dX2_nextToken_62 : decode cX2_nextToken 62 = .ok (.getfield 114, 3) := by decide +kernel
theorem dX2_nextToken_65 : decode cX2_nextToken 65 = .ok (.invokevirtual 125, 3) := by decide +kernel
theorem dX2_nextToken_68 : decode cX2_nextToken 68 = .ok (.putfield 111, 3) := by decide +kernel
theorem dX2_nextToken_71 : decode cX2_nextToken 71 = .ok (.aload_n 0, 1) := by decide +kernel
theorem dX2_nextToken_72 : decode cX2_nextToken 72 = .ok (.getfield 111, 3) := by decide +kernel
theorem dX2_nextToken_75 : decode cX2_nextToken 75 = .ok (.iconst 2, 1) := by decide +kernel
theorem dX2_nextToken_76 : decode cX2_nextToken 76 = .ok (.if_icmp .ne 16, 3) := by decide +kernel
theorem dX2_nextToken_79 : decode cX2_nextToken 79 = .ok (.aload_n 0, 1) := by decide +kernel
theorem dX2_nextToken_80 : decode cX2_nextToken 80 = .ok (.dup, 1) := by decide +kernel
theorem dX2_nextToken_81 : decode cX2_nextToken 81 = .ok (.getfield 33, 3) := by decide +kernel
theorem dX2_nextToken_84 : decode cX2_nextToken 84 = .ok (.iconst 1, 1) := by decide +kernel
theorem dX2_nextToken_85 : decode cX2_nextToken 85 = .ok (.iadd, 1) := by decide +kernel
theorem dX2_nextToken_86 : decode cX2_nextToken 86 = .ok (.putfield 33, 3) := by decide +kernel
theorem dX2_nextToken_89 : decode cX2_nextToken 89 = .ok (.goto 45, 3) := by decide +kernel
theorem dX2_nextToken_92 : decode cX2_nextToken 92 = .ok (.aload_n 0, 1) := by decide +kernel
theorem dX2_nextToken_93 : decode cX2_nextToken 93 = .ok (.getfield 33, 3) := by decide +kernel
theorem dX2_nextToken_96 : decode cX2_nextToken 96 = .ok (.aload_n 0, 1) := by decide +kernel
theorem dX2_nextToken_97 : decode cX2_nextToken 97 = .ok (.getfield 24, 3) := by decide +kernel
theorem dX2_nextToken_100 : decode cX2_nextToken 100 = .ok (.getfield 123, 3) := by decide +kernel
theorem dX2_nextToken_103 : decode cX2_nextToken 103 = .ok (.if_icmp .ge 31, 3) := by decide +kernel
theorem dX2_nextToken_106 : decode cX2_nextToken 106 = .ok (.aload_n 0, 1) := by decide +kernel
theorem dX2_nextToken_107 : decode cX2_nextToken 107 = .ok (.aload_n 0, 1) := by decide +kernel
theorem dX2_nextToken_108 : decode cX2_nextToken 108 = .ok (.getfield 33, 3) := by decide +kernel
theorem dX2_nextToken_111 : decode cX2_nextToken 111 = .ok (.invokevirtual 125, 3) := by decide +kernel
theorem dX2_nextToken_114 : decode cX2_nextToken 114 = .ok (.aload_n 0, 1) := by decide +kernel
theorem dX2_nextToken_115 : decode cX2_nextToken 115 = .ok (.getfield 111, 3) := by decide +kernel
theorem dX2_nextToken_118 : decode cX2_nextToken 118 = .ok (.if_icmp .ne 16, 3) := by decide +kernel
theorem dX2_nextToken_121 : decode cX2_nextToken 121 = .ok (.aload_n 0, 1) := by decide +kernel
theorem dX2_nextToken_122 : decode cX2_nextToken 122 = .ok (.dup, 1) := by decide +kernel
theorem dX2_nextToken_123 : decode cX2_nextToken 123 = .ok (.getfield 33, 3) := by decide +kernel
theorem dX2_nextToken_126 : decode cX2_nextToken 126 = .ok (.iconst 1, 1) := by decide +kernel
theorem dX2_nextToken_127 : decode cX2_nextToken 127 = .ok (.iadd, 1) := by decide +kernel
theorem dX2_nextToken_128 : decode cX2_nextToken 128 = .ok (.putfield 33, 3) := by decide +kernel
theorem dX2_nextToken_131 : decode cX2_nextToken 131 = .ok (.goto (-39), 3) := by decide +kernel
theorem dX2_nextToken_134 : decode cX2_nextToken 134 = .ok (.return_, 1) := by decide +kernel
theorem dX2_sortAt_0 : decode cX2_sortAt 0 = .ok (.aload_n 0, 1) := by decide +kernel
theorem dX2_sortAt_1 : decode cX2_sortAt 1 = .ok (.getfield 24, 3) := by decide +kernel
theorem dX2_sortAt_4 : decode cX2_sortAt 4 = .ok (.iload_n 1, 1) := by decide +kernel
theorem dX2_sortAt_5 : decode cX2_sortAt 5 = .ok (.invokevirtual 117, 3) := by decide +kernel
theorem dX2_sortAt_8 : decode cX2_sortAt 8 = .ok (.istore_n 2, 1) := by decide +kernel
theorem dX2_sortAt_9 : decode cX2_sortAt 9 = .ok (.iload_n 2, 1) := by decide +kernel
theorem dX2_sortAt_10 : decode cX2_sortAt 10 = .ok (.iconst (-1), 1) := by decide +kernel
theorem dX2_sortAt_11 : decode cX2_sortAt 11 = .ok (.if_icmp .ne 5, 3) := by decide +kernel
theorem dX2_sortAt_14 : decode cX2_sortAt 14 = .ok (.iconst 3, 1) := by decide +kernel
theorem dX2_sortAt_15 : decode cX2_sortAt 15 = .ok (.ireturn, 1) := by decide +kernel
theorem dX2_sortAt_16 : decode cX2_sortAt 16 = .ok (.iload_n 2, 1) := by decide +kernel
theorem dX2_sortAt_17 : decode cX2_sortAt 17 = .ok (.bipush 97, 2) := by decide +kernel
theorem dX2_sortAt_19 : decode cX2_sortAt 19 = .ok (.if_icmp .lt 11, 3) := by decide +kernel
theorem dX2_sortAt_22 : decode cX2_sortAt 22 = .ok (.iload_n 2, 1) := by decide +kernel
theorem dX2_sortAt_23 : decode cX2_sortAt 23 = .ok (.bipush 122, 2) := by decide +kernel
theorem dX2_sortAt_25 : decode cX2_sortAt 25 = .ok (.if_icmp .gt 5, 3) := by decide +kernel
theorem dX2_sortAt_28 : decode cX2_sortAt 28 = .ok (.iconst 0, 1) := by decide +kernel
theorem dX2_sortAt_29 : decode cX2_sortAt 29 = .ok (.ireturn, 1) := by decide +kernel
theorem dX2_sortAt_30 : decode cX2_sortAt 30 = .ok (.iload_n 2, 1) := by decide +kernel
theorem dX2_sortAt_31 : decode cX2_sortAt 31 = .ok (.bipush 48, 2) := by decide +kernel
theorem dX2_sortAt_33 : decode cX2_sortAt 33 = .ok (.if_icmp .lt 13, 3) := by decide +kernel
theorem dX2_sortAt_36 : decode cX2_sortAt 36 = .ok (.iload_n 2, 1) := by decide +kernel
theorem dX2_sortAt_37 : decode cX2_sortAt 37 = .ok (.bipush 57, 2) := by decide +kernel
theorem dX2_sortAt_39 : decode cX2_sortAt 39 = .ok (.if_icmp .gt 7, 3) := by decide +kernel
theorem dX2_sortAt_42 : decode cX2_sortAt 42 = .ok (.iconst 1, 1) := by decide +kernel
theorem dX2_sortAt_43 : decode cX2_sortAt 43 = .ok (.goto 4, 3) := by decide +kernel
theorem dX2_sortAt_46 : decode cX2_sortAt 46 = .ok (.iconst 2, 1) := by decide +kernel
theorem dX2_sortAt_47 : decode cX2_sortAt 47 = .ok (.ireturn, 1) := by decide +kernel
theorem dX2_findWord_0 : decode cX2_findWord 0 = .ok (.iconst 0, 1) := by decide +kernel
theorem dX2_findWord_1 : decode cX2_findWord 1 = .ok (.istore_n 1, 1) := by decide +kernel
theorem dX2_findWord_2 : decode cX2_findWord 2 = .ok (.iload_n 1, 1) := by decide +kernel
theorem dX2_findWord_3 : decode cX2_findWord 3 = .ok (.getstatic 128, 3) := by decide +kernel
theorem dX2_findWord_6 : decode cX2_findWord 6 = .ok (.arraylength, 1) := by decide +kernel
theorem dX2_findWord_7 : decode cX2_findWord 7 = .ok (.if_icmp .ge 30, 3) := by decide +kernel
theorem dX2_findWord_10 : decode cX2_findWord 10 = .ok (.aload_n 0, 1) := by decide +kernel
theorem dX2_findWord_11 : decode cX2_findWord 11 = .ok (.getstatic 128, 3) := by decide +kernel
theorem dX2_findWord_14 : decode cX2_findWord 14 = .ok (.iload_n 1, 1) := by decide +kernel
theorem dX2_findWord_15 : decode cX2_findWord 15 = .ok (.aaload, 1) := by decide +kernel
theorem dX2_findWord_16 : decode cX2_findWord 16 = .ok (.getfield 132, 3) := by decide +kernel
theorem dX2_findWord_19 : decode cX2_findWord 19 = .ok (.invokevirtual 135, 3) := by decide +kernel
theorem dX2_findWord_22 : decode cX2_findWord 22 = .ok (.ifCond .eq 9, 3) := by decide +kernel
theorem dX2_findWord_25 : decode cX2_findWord 25 = .ok (.getstatic 128, 3) := by decide +kernel
theorem dX2_findWord_28 : decode cX2_findWord 28 = .ok (.iload_n 1, 1) := by decide +kernel
theorem dX2_findWord_29 : decode cX2_findWord 29 = .ok (.aaload, 1) := by decide +kernel
theorem dX2_findWord_30 : decode cX2_findWord 30 = .ok (.areturn, 1) := by decide +kernel
theorem dX2_findWord_31 : decode cX2_findWord 31 = .ok (.iinc 1 1, 3) := by decide +kernel
theorem dX2_findWord_34 : decode cX2_findWord 34 = .ok (.goto (-32), 3) := by decide +kernel
theorem dX2_findWord_37 : decode cX2_findWord 37 = .ok (.aconst_null, 1) := by decide +kernel
theorem dX2_findWord_38 : decode cX2_findWord 38 = .ok (.areturn, 1) := by decide +kernel
theorem dX2_isSpelt_0 : decode cX2_isSpelt 0 = .ok (.aload_n 1, 1) := by decide +kernel
theorem dX2_isSpelt_1 : decode cX2_isSpelt 1 = .ok (.invokevirtual 86, 3) := by decide +kernel
theorem dX2_isSpelt_4 : decode cX2_isSpelt 4 = .ok (.istore_n 2, 1) := by decide +kernel
theorem dX2_isSpelt_5 : decode cX2_isSpelt 5 = .ok (.aload_n 0, 1) := by decide +kernel
theorem dX2_isSpelt_6 : decode cX2_isSpelt 6 = .ok (.getfield 33, 3) := by decide +kernel
theorem dX2_isSpelt_9 : decode cX2_isSpelt 9 = .ok (.aload_n 0, 1) := by decide +kernel
theorem dX2_isSpelt_10 : decode cX2_isSpelt 10 = .ok (.getfield 114, 3) := by decide +kernel
theorem dX2_isSpelt_13 : decode cX2_isSpelt 13 = .ok (.isub, 1) := by decide +kernel
theorem dX2_isSpelt_14 : decode cX2_isSpelt 14 = .ok (.iload_n 2, 1) := by decide +kernel
theorem dX2_isSpelt_15 : decode cX2_isSpelt 15 = .ok (.if_icmp .eq 5, 3) := by decide +kernel
theorem dX2_isSpelt_18 : decode cX2_isSpelt 18 = .ok (.iconst 0, 1) := by decide +kernel
theorem dX2_isSpelt_19 : decode cX2_isSpelt 19 = .ok (.ireturn, 1) := by decide +kernel
theorem dX2_isSpelt_20 : decode cX2_isSpelt 20 = .ok (.iconst 0, 1) := by decide +kernel
theorem dX2_isSpelt_21 : decode cX2_isSpelt 21 = .ok (.istore_n 3, 1) := by decide +kernel
theorem dX2_isSpelt_22 : decode cX2_isSpelt 22 = .ok (.iload_n 3, 1) := by decide +kernel
theorem dX2_isSpelt_23 : decode cX2_isSpelt 23 = .ok (.iload_n 2, 1) := by decide +kernel
theorem dX2_isSpelt_24 : decode cX2_isSpelt 24 = .ok (.if_icmp .ge 32, 3) := by decide +kernel
theorem dX2_isSpelt_27 : decode cX2_isSpelt 27 = .ok (.aload_n 1, 1) := by decide +kernel
theorem dX2_isSpelt_28 : decode cX2_isSpelt 28 = .ok (.iload_n 3, 1) := by decide +kernel
theorem dX2_isSpelt_29 : decode cX2_isSpelt 29 = .ok (.invokevirtual 95, 3) := by decide +kernel
theorem dX2_isSpelt_32 : decode cX2_isSpelt 32 = .ok (.aload_n 0, 1) := by decide +kernel
theorem dX2_isSpelt_33 : decode cX2_isSpelt 33 = .ok (.getfield 24, 3) := by decide +kernel
theorem dX2_isSpelt_36 : decode cX2_isSpelt 36 = .ok (.aload_n 0, 1) := by decide +kernel
theorem dX2_isSpelt_37 : decode cX2_isSpelt 37 = .ok (.getfield 114, 3) := by decide +kernel
theorem dX2_isSpelt_40 : decode cX2_isSpelt 40 = .ok (.iload_n 3, 1) := by decide +kernel
theorem dX2_isSpelt_41 : decode cX2_isSpelt 41 = .ok (.iadd, 1) := by decide +kernel
theorem dX2_isSpelt_42 : decode cX2_isSpelt 42 = .ok (.invokevirtual 117, 3) := by decide +kernel
theorem dX2_isSpelt_45 : decode cX2_isSpelt 45 = .ok (.if_icmp .eq 5, 3) := by decide +kernel
theorem dX2_isSpelt_48 : decode cX2_isSpelt 48 = .ok (.iconst 0, 1) := by decide +kernel
theorem dX2_isSpelt_49 : decode cX2_isSpelt 49 = .ok (.ireturn, 1) := by decide +kernel
theorem dX2_isSpelt_50 : decode cX2_isSpelt 50 = .ok (.iinc 3 1, 3) := by decide +kernel
theorem dX2_isSpelt_53 : decode cX2_isSpelt 53 = .ok (.goto (-31), 3) := by decide +kernel
theorem dX2_isSpelt_56 : decode cX2_isSpelt 56 = .ok (.iconst 1, 1) := by decide +kernel
theorem dX2_isSpelt_57 : decode cX2_isSpelt 57 = .ok (.ireturn, 1) := by decide +kernel
theorem dX2_isTooMany_0 : decode cX2_isTooMany 0 = .ok (.aload_n 1, 1) := by decide +kernel
theorem dX2_isTooMany_1 : decode cX2_isTooMany 1 = .ok (.getfield 139, 3) := by decide +kernel
theorem dX2_isTooMany_4 : decode cX2_isTooMany 4 = .ok (.iconst (-1), 1) := by decide +kernel
theorem dX2_isTooMany_5 : decode cX2_isTooMany 5 = .ok (.if_icmp .eq 12, 3) := by decide +kernel
theorem dX2_isTooMany_8 : decode cX2_isTooMany 8 = .ok (.aload_n 0, 1) := by decide +kernel
theorem dX2_isTooMany_9 : decode cX2_isTooMany 9 = .ok (.getfield 41, 3) := by decide +kernel
theorem dX2_isTooMany_12 : decode cX2_isTooMany 12 = .ok (.bipush 8, 2) := by decide +kernel
theorem dX2_isTooMany_14 : decode cX2_isTooMany 14 = .ok (.if_icmp .ge 19, 3) := by decide +kernel
theorem dX2_isTooMany_17 : decode cX2_isTooMany 17 = .ok (.aload_n 1, 1) := by decide +kernel
theorem dX2_isTooMany_18 : decode cX2_isTooMany 18 = .ok (.getfield 142, 3) := by decide +kernel
theorem dX2_isTooMany_21 : decode cX2_isTooMany 21 = .ok (.iconst (-1), 1) := by decide +kernel
theorem dX2_isTooMany_22 : decode cX2_isTooMany 22 = .ok (.if_icmp .eq 15, 3) := by decide +kernel
theorem dX2_isTooMany_25 : decode cX2_isTooMany 25 = .ok (.aload_n 0, 1) := by decide +kernel
theorem dX2_isTooMany_26 : decode cX2_isTooMany 26 = .ok (.getfield 51, 3) := by decide +kernel
theorem dX2_isTooMany_29 : decode cX2_isTooMany 29 = .ok (.iconst 3, 1) := by decide +kernel
theorem dX2_isTooMany_30 : decode cX2_isTooMany 30 = .ok (.if_icmp .lt 7, 3) := by decide +kernel
theorem dX2_isTooMany_33 : decode cX2_isTooMany 33 = .ok (.iconst 1, 1) := by decide +kernel
theorem dX2_isTooMany_34 : decode cX2_isTooMany 34 = .ok (.goto 4, 3) := by decide +kernel
theorem dX2_isTooMany_37 : decode cX2_isTooMany 37 = .ok (.iconst 0, 1) := by decide +kernel
theorem dX2_isTooMany_38 : decode cX2_isTooMany 38 = .ok (.ireturn, 1) := by decide +kernel
theorem dX2_numberHere_0 : decode cX2_numberHere 0 = .ok (.aload_n 0, 1) := by decide +kernel
theorem dX2_numberHere_1 : decode cX2_numberHere 1 = .ok (.getfield 111, 3) := by decide +kernel
theorem dX2_numberHere_4 : decode cX2_numberHere 4 = .ok (.iconst 1, 1) := by decide +kernel
theorem dX2_numberHere_5 : decode cX2_numberHere 5 = .ok (.if_icmp .ne 16, 3) := by decide +kernel
theorem dX2_numberHere_8 : decode cX2_numberHere 8 = .ok (.aload_n 0, 1) := by decide +kernel
theorem dX2_numberHere_9 : decode cX2_numberHere 9 = .ok (.getfield 33, 3) := by decide +kernel
theorem dX2_numberHere_12 : decode cX2_numberHere 12 = .ok (.aload_n 0, 1) := by decide +kernel
theorem dX2_numberHere_13 : decode cX2_numberHere 13 = .ok (.getfield 114, 3) := by decide +kernel
theorem dX2_numberHere_16 : decode cX2_numberHere 16 = .ok (.isub, 1) := by decide +kernel
theorem dX2_numberHere_17 : decode cX2_numberHere 17 = .ok (.iconst 3, 1) := by decide +kernel
theorem dX2_numberHere_18 : decode cX2_numberHere 18 = .ok (.if_icmp .le 5, 3) := by decide +kernel
theorem dX2_numberHere_21 : decode cX2_numberHere 21 = .ok (.iconst (-1), 1) := by decide +kernel
theorem dX2_numberHere_22 : decode cX2_numberHere 22 = .ok (.ireturn, 1) := by decide +kernel
theorem dX2_numberHere_23 : decode cX2_numberHere 23 = .ok (.iconst 0, 1) := by decide +kernel
theorem dX2_numberHere_24 : decode cX2_numberHere 24 = .ok (.istore_n 1, 1) := by decide +kernel
theorem dX2_numberHere_25 : decode cX2_numberHere 25 = .ok (.aload_n 0, 1) := by decide +kernel
theorem dX2_numberHere_26 : decode cX2_numberHere 26 = .ok (.getfield 114, 3) := by decide +kernel
theorem dX2_numberHere_29 : decode cX2_numberHere 29 = .ok (.istore_n 2, 1) := by decide +kernel
theorem dX2_numberHere_30 : decode cX2_numberHere 30 = .ok (.iload_n 2, 1) := by decide +kernel
theorem dX2_numberHere_31 : decode cX2_numberHere 31 = .ok (.aload_n 0, 1) := by decide +kernel
theorem dX2_numberHere_32 : decode cX2_numberHere 32 = .ok (.getfield 33, 3) := by decide +kernel
theorem dX2_numberHere_35 : decode cX2_numberHere 35 = .ok (.if_icmp .ge 26, 3) := by decide +kernel
theorem dX2_numberHere_38 : decode cX2_numberHere 38 = .ok (.iload_n 1, 1) := by decide +kernel
theorem dX2_numberHere_39 : decode cX2_numberHere 39 = .ok (.bipush 10, 2) := by decide +kernel
theorem dX2_numberHere_41 : decode cX2_numberHere 41 = .ok (.imul, 1) := by decide +kernel
theorem dX2_numberHere_42 : decode cX2_numberHere 42 = .ok (.aload_n 0, 1) := by decide +kernel
theorem dX2_numberHere_43 : decode cX2_numberHere 43 = .ok (.getfield 24, 3) := by decide +kernel
theorem dX2_numberHere_46 : decode cX2_numberHere 46 = .ok (.iload_n 2, 1) := by decide +kernel
theorem dX2_numberHere_47 : decode cX2_numberHere 47 = .ok (.invokevirtual 117, 3) := by decide +kernel
theorem dX2_numberHere_50 : decode cX2_numberHere 50 = .ok (.iadd, 1) := by decide +kernel
theorem dX2_numberHere_51 : decode cX2_numberHere 51 = .ok (.bipush 48, 2) := by decide +kernel
theorem dX2_numberHere_53 : decode cX2_numberHere 53 = .ok (.isub, 1) := by decide +kernel
theorem dX2_numberHere_54 : decode cX2_numberHere 54 = .ok (.istore_n 1, 1) := by decide +kernel
theorem dX2_numberHere_55 : decode cX2_numberHere 55 = .ok (.iinc 2 1, 3) := by decide +kernel
theorem dX2_numberHere_58 : decode cX2_numberHere 58 = .ok (.goto (-28), 3) := by decide +kernel
theorem dX2_numberHere_61 : decode cX2_numberHere 61 = .ok (.iload_n 1, 1) := by decide +kernel
theorem dX2_numberHere_62 : decode cX2_numberHere 62 = .ok (.ireturn, 1) := by decide +kernel
theorem dX2_canStand_0 : decode cX2_canStand 0 = .ok (.iload_n 1, 1) := by decide +kernel
theorem dX2_canStand_1 : decode cX2_canStand 1 = .ok (.bipush 84, 2) := by decide +kernel
theorem dX2_canStand_3 : decode cX2_canStand 3 = .ok (.if_icmp .eq 9, 3) := by decide +kernel
theorem dX2_canStand_6 : decode cX2_canStand 6 = .ok (.iload_n 1, 1) := by decide +kernel
theorem dX2_canStand_7 : decode cX2_canStand 7 = .ok (.bipush 72, 2) := by decide +kernel
theorem dX2_canStand_9 : decode cX2_canStand 9 = .ok (.if_icmp .ne 39, 3) := by decide +kernel
theorem dX2_canStand_12 : decode cX2_canStand 12 = .ok (.iload_n 2, 1) := by decide +kernel
theorem dX2_canStand_13 : decode cX2_canStand 13 = .ok (.ifCond .lt 33, 3) := by decide +kernel
theorem dX2_canStand_16 : decode cX2_canStand 16 = .ok (.iload_n 2, 1) := by decide +kernel
theorem dX2_canStand_17 : decode cX2_canStand 17 = .ok (.aload_n 0, 1) := by decide +kernel
theorem dX2_canStand_18 : decode cX2_canStand 18 = .ok (.getfield 41, 3) := by decide +kernel
theorem dX2_canStand_21 : decode cX2_canStand 21 = .ok (.if_icmp .ge 25, 3) := by decide +kernel
theorem dX2_canStand_24 : decode cX2_canStand 24 = .ok (.iload_n 1, 1) := by decide +kernel
theorem dX2_canStand_25 : decode cX2_canStand 25 = .ok (.bipush 84, 2) := by decide +kernel
theorem dX2_canStand_27 : decode cX2_canStand 27 = .ok (.if_icmp .eq 15, 3) := by decide +kernel
theorem dX2_canStand_30 : decode cX2_canStand 30 = .ok (.aload_n 0, 1) := by decide +kernel
theorem dX2_canStand_31 : decode cX2_canStand 31 = .ok (.getfield 47, 3) := by decide +kernel
theorem dX2_canStand_34 : decode cX2_canStand 34 = .ok (.iload_n 2, 1) := by decide +kernel
theorem dX2_canStand_35 : decode cX2_canStand 35 = .ok (.ishr, 1) := by decide +kernel
theorem dX2_canStand_36 : decode cX2_canStand 36 = .ok (.iconst 1, 1) := by decide +kernel
theorem dX2_canStand_37 : decode cX2_canStand 37 = .ok (.iand, 1) := by decide +kernel
theorem dX2_canStand_38 : decode cX2_canStand 38 = .ok (.iconst 1, 1) := by decide +kernel
theorem dX2_canStand_39 : decode cX2_canStand 39 = .ok (.if_icmp .ne 7, 3) := by decide +kernel
theorem dX2_canStand_42 : decode cX2_canStand 42 = .ok (.iconst 1, 1) := by decide +kernel
theorem dX2_canStand_43 : decode cX2_canStand 43 = .ok (.goto 4, 3) := by decide +kernel
theorem dX2_canStand_46 : decode cX2_canStand 46 = .ok (.iconst 0, 1) := by decide +kernel
theorem dX2_canStand_47 : decode cX2_canStand 47 = .ok (.ireturn, 1) := by decide +kernel
theorem dX2_canStand_48 : decode cX2_canStand 48 = .ok (.ldc 145, 2) := by decide +kernel
theorem dX2_canStand_50 : decode cX2_canStand 50 = .ok (.iload_n 1, 1) := by decide +kernel
theorem dX2_canStand_51 : decode cX2_canStand 51 = .ok (.invokevirtual 147, 3) := by decide +kernel
theorem dX2_canStand_54 : decode cX2_canStand 54 = .ok (.istore_n 3, 1) := by decide +kernel
theorem dX2_canStand_55 : decode cX2_canStand 55 = .ok (.iload_n 3, 1) := by decide +kernel
theorem dX2_canStand_56 : decode cX2_canStand 56 = .ok (.ifCond .lt 33, 3) := by decide +kernel
theorem dX2_canStand_59 : decode cX2_canStand 59 = .ok (.iload_n 3, 1) := by decide +kernel
theorem dX2_canStand_60 : decode cX2_canStand 60 = .ok (.getstatic 150, 3) := by decide +kernel
theorem dX2_canStand_63 : decode cX2_canStand 63 = .ok (.arraylength, 1) := by decide +kernel
theorem dX2_canStand_64 : decode cX2_canStand 64 = .ok (.if_icmp .ge 25, 3) := by decide +kernel
theorem dX2_canStand_67 : decode cX2_canStand 67 = .ok (.iload_n 2, 1) := by decide +kernel
theorem dX2_canStand_68 : decode cX2_canStand 68 = .ok (.getstatic 150, 3) := by decide +kernel
theorem dX2_canStand_71 : decode cX2_canStand 71 = .ok (.iload_n 3, 1) := by decide +kernel
theorem dX2_canStand_72 : decode cX2_canStand 72 = .ok (.iaload, 1) := by decide +kernel
theorem dX2_canStand_73 : decode cX2_canStand 73 = .ok (.if_icmp .lt 16, 3) := by decide +kernel
theorem dX2_canStand_76 : decode cX2_canStand 76 = .ok (.iload_n 2, 1) := by decide +kernel
theorem dX2_canStand_77 : decode cX2_canStand 77 = .ok (.getstatic 153, 3) := by decide +kernel
theorem dX2_canStand_80 : decode cX2_canStand 80 = .ok (.iload_n 3, 1) := by decide +kernel
theorem dX2_canStand_81 : decode cX2_canStand 81 = .ok (.iaload, 1) := by decide +kernel
theorem dX2_canStand_82 : decode cX2_canStand 82 = .ok (.if_icmp .gt 7, 3) := by decide +kernel
theorem dX2_canStand_85 : decode cX2_canStand 85 = .ok (.iconst 1, 1) := by decide +kernel
theorem dX2_canStand_86 : decode cX2_canStand 86 = .ok (.goto 4, 3) := by decide +kernel
theorem dX2_canStand_89 : decode cX2_canStand 89 = .ok (.iconst 0, 1) := by decide +kernel
theorem dX2_canStand_90 : decode cX2_canStand 90 = .ok (.ireturn, 1) := by decide +kernel
theorem dX2_foresee_0 : decode cX2_foresee 0 = .ok (.aload_n 1, 1) := by decide +kernel
theorem dX2_foresee_1 : decode cX2_foresee 1 = .ok (.getstatic 156, 3) := by decide +kernel
theorem dX2_foresee_4 : decode cX2_foresee 4 = .ok (.if_acmp .ne 21, 3) := by decide +kernel
theorem dX2_foresee_7 : decode cX2_foresee 7 = .ok (.aload_n 0, 1) := by decide +kernel
theorem dX2_foresee_8 : decode cX2_foresee 8 = .ok (.iconst 0, 1) := by decide +kernel
theorem dX2_foresee_9 : decode cX2_foresee 9 = .ok (.putfield 41, 3) := by decide +kernel
theorem dX2_foresee_12 : decode cX2_foresee 12 = .ok (.aload_n 0, 1) := by decide +kernel
theorem dX2_foresee_13 : decode cX2_foresee 13 = .ok (.iconst 0, 1) := by decide +kernel
theorem dX2_foresee_14 : decode cX2_foresee 14 = .ok (.putfield 47, 3) := by decide +kernel
theorem dX2_foresee_17 : decode cX2_foresee 17 = .ok (.aload_n 0, 1) := by decide +kernel
theorem dX2_foresee_18 : decode cX2_foresee 18 = .ok (.iconst 0, 1) := by decide +kernel
theorem dX2_foresee_19 : decode cX2_foresee 19 = .ok (.putfield 51, 3) := by decide +kernel
theorem dX2_foresee_22 : decode cX2_foresee 22 = .ok (.goto 71, 3) := by decide +kernel
theorem dX2_foresee_25 : decode cX2_foresee 25 = .ok (.aload_n 1, 1) := by decide +kernel
theorem dX2_foresee_26 : decode cX2_foresee 26 = .ok (.getfield 139, 3) := by decide +kernel
theorem dX2_foresee_29 : decode cX2_foresee 29 = .ok (.iconst (-1), 1) := by decide +kernel
theorem dX2_foresee_30 : decode cX2_foresee 30 = .ok (.if_icmp .eq 45, 3) := by decide +kernel
theorem dX2_foresee_33 : decode cX2_foresee 33 = .ok (.aload_n 0, 1) := by decide +kernel
theorem dX2_foresee_34 : decode cX2_foresee 34 = .ok (.dup, 1) := by decide +kernel
theorem dX2_foresee_35 : decode cX2_foresee 35 = .ok (.getfield 47, 3) := by decide +kernel
theorem dX2_foresee_38 : decode cX2_foresee 38 = .ok (.aload_n 1, 1) := by decide +kernel
theorem dX2_foresee_39 : decode cX2_foresee 39 = .ok (.getfield 139, 3) := by decide +kernel
theorem dX2_foresee_42 : decode cX2_foresee 42 = .ok (.invokestatic 159, 3) := by decide +kernel
theorem dX2_foresee_45 : decode cX2_foresee 45 = .ok (.ifCond .eq 12, 3) := by decide +kernel
theorem dX2_foresee_48 : decode cX2_foresee 48 = .ok (.iconst 1, 1) := by decide +kernel
theorem dX2_foresee_49 : decode cX2_foresee 49 = .ok (.aload_n 0, 1) := by decide +kernel
theorem dX2_foresee_50 : decode cX2_foresee 50 = .ok (.getfield 41, 3) := by decide +kernel
theorem dX2_foresee_53 : decode cX2_foresee 53 = .ok (.ishl, 1) := by decide +kernel
theorem dX2_foresee_54 : decode cX2_foresee 54 = .ok (.goto 4, 3) := by decide +kernel
theorem dX2_foresee_57 : decode cX2_foresee 57 = .ok (.iconst 0, 1) := by decide +kernel
theorem dX2_foresee_58 : decode cX2_foresee 58 = .ok (.ior, 1) := by decide +kernel
theorem dX2_foresee_59 : decode cX2_foresee 59 = .ok (.putfield 47, 3) := by decide +kernel
theorem dX2_foresee_62 : decode cX2_foresee 62 = .ok (.aload_n 0, 1) := by decide +kernel
theorem dX2_foresee_63 : decode cX2_foresee 63 = .ok (.dup, 1) := by decide +kernel
theorem dX2_foresee_64 : decode cX2_foresee 64 = .ok (.getfield 41, 3) := by decide +kernel
theorem dX2_foresee_67 : decode cX2_foresee 67 = .ok (.iconst 1, 1) := by decide +kernel
theorem dX2_foresee_68 : decode cX2_foresee 68 = .ok (.iadd, 1) := by decide +kernel
theorem dX2_foresee_69 : decode cX2_foresee 69 = .ok (.putfield 41, 3) := by decide +kernel
theorem dX2_foresee_72 : decode cX2_foresee 72 = .ok (.goto 21, 3) := by decide +kernel
theorem dX2_foresee_75 : decode cX2_foresee 75 = .ok (.aload_n 1, 1) := by decide +kernel
theorem dX2_foresee_76 : decode cX2_foresee 76 = .ok (.getfield 142, 3) := by decide +kernel
theorem dX2_foresee_79 : decode cX2_foresee 79 = .ok (.iconst (-1), 1) := by decide +kernel
theorem dX2_foresee_80 : decode cX2_foresee 80 = .ok (.if_icmp .eq 13, 3) := by decide +kernel
theorem dX2_foresee_83 : decode cX2_foresee 83 = .ok (.aload_n 0, 1) := by decide +kernel
theorem dX2_foresee_84 : decode cX2_foresee 84 = .ok (.dup, 1) := by decide +kernel
theorem dX2_foresee_85 : decode cX2_foresee 85 = .ok (.getfield 51, 3) := by decide +kernel
theorem dX2_foresee_88 : decode cX2_foresee 88 = .ok (.iconst 1, 1) := by decide +kernel
theorem dX2_foresee_89 : decode cX2_foresee 89 = .ok (.iadd, 1) := by decide +kernel
theorem dX2_foresee_90 : decode cX2_foresee 90 = .ok (.putfield 51, 3) := by decide +kernel
theorem dX2_foresee_93 : decode cX2_foresee 93 = .ok (.return_, 1) := by decide +kernel
theorem dX3_init_0 : decode cX3_init 0 = .ok (.aload_n 0, 1) := by decide +kernel
theorem dX3_init_1 : decode cX3_init 1 = .ok (.invokespecial 3, 3) := by decide +kernel
theorem dX3_init_4 : decode cX3_init 4 = .ok (.aload_n 0, 1) := by decide +kernel
theorem dX3_init_5 : decode cX3_init 5 = .ok (.bipush 8, 2) := by decide +kernel
theorem dX3_init_7 : decode cX3_init 7 = .ok (.anewarray 9, 3) := by decide +kernel
theorem dX3_init_10 : decode cX3_init 10 = .ok (.putfield 11, 3) := by decide +kernel
theorem dX3_init_13 : decode cX3_init 13 = .ok (.aload_n 0, 1) := by decide +kernel
theorem dX3_init_14 : decode cX3_init 14 = .ok (.iconst 3, 1) := by decide +kernel
theorem dX3_init_15 : decode cX3_init 15 = .ok (.anewarray 17, 3) := by decide +kernel
theorem dX3_init_18 : decode cX3_init 18 = .ok (.putfield 19, 3) := by decide +kernel
theorem dX3_init_21 : decode cX3_init 21 = .ok (.aload_n 0, 1) := by decide +kernel
theorem dX3_init_22 : decode cX3_init 22 = .ok (.new 23, 3) := by decide +kernel
theorem dX3_init_25 : decode cX3_init 25 = .ok (.dup, 1) := by decide +kernel
theorem dX3_init_26 : decode cX3_init 26 = .ok (.invokespecial 25, 3) := by decide +kernel
theorem dX3_init_29 : decode cX3_init 29 = .ok (.putfield 26, 3) := by decide +kernel
theorem dX3_init_32 : decode cX3_init 32 = .ok (.aload_n 0, 1) := by decide +kernel
theorem dX3_init_33 : decode cX3_init 33 = .ok (.iconst 0, 1) := by decide +kernel
theorem dX3_init_34 : decode cX3_init 34 = .ok (.putfield 30, 3) := by decide +kernel
theorem dX3_init_37 : decode cX3_init 37 = .ok (.aload_n 0, 1) := by decide +kernel
theorem dX3_init_38 : decode cX3_init 38 = .ok (.iconst 0, 1) := by decide +kernel
theorem dX3_init_39 : decode cX3_init 39 = .ok (.putfield 34, 3) := by decide +kernel
theorem dX3_init_42 : decode cX3_init 42 = .ok (.aload_n 0, 1) := by decide +kernel
theorem dX3_init_43 : decode cX3_init 43 = .ok (.iconst 0, 1) := by decide +kernel
theorem dX3_init_44 : decode cX3_init 44 = .ok (.putfield 37, 3) := by decide +kernel
theorem dX3_init_47 : decode cX3_init 47 = .ok (.aload_n 0, 1) := by decide +kernel
theorem dX3_init_48 : decode cX3_init 48 = .ok (.iconst 0, 1) := by decide +kernel
theorem dX3_init_49 : decode cX3_init 49 = .ok (.putfield 40, 3) := by decide +kernel
theorem dX3_init_52 : decode cX3_init 52 = .ok (.aload_n 0, 1) := by decide +kernel
theorem dX3_init_53 : decode cX3_init 53 = .ok (.iconst 0, 1) := by decide +kernel
theorem dX3_init_54 : decode cX3_init 54 = .ok (.putfield 43, 3) := by decide +kernel
theorem dX3_init_57 : decode cX3_init 57 = .ok (.aload_n 0, 1) := by decide +kernel
theorem dX3_init_58 : decode cX3_init 58 = .ok (.sipush 256, 3) := by decide +kernel
theorem dX3_init_61 : decode cX3_init 61 = .ok (.newarray .int, 2) := by decide +kernel
theorem dX3_init_63 : decode cX3_init 63 = .ok (.putfield 46, 3) := by decide +kernel
theorem dX3_init_66 : decode cX3_init 66 = .ok (.iconst 0, 1) := by decide +kernel
theorem dX3_init_67 : decode cX3_init 67 = .ok (.istore_n 1, 1) := by decide +kernel
theorem dX3_init_68 : decode cX3_init 68 = .ok (.iload_n 1, 1) := by decide +kernel
theorem dX3_init_69 : decode cX3_init 69 = .ok (.bipush 8, 2) := by decide +kernel
theorem dX3_init_71 : decode cX3_init 71 = .ok (.if_icmp .ge 22, 3) := by decide +kernel
theorem dX3_init_74 : decode cX3_init 74 = .ok (.aload_n 0, 1) := by decide +kernel
theorem dX3_init_75 : decode cX3_init 75 = .ok (.getfield 11, 3) := by decide +kernel
theorem dX3_init_78 : decode cX3_init 78 = .ok (.iload_n 1, 1) := by decide +kernel
theorem dX3_init_79 : decode cX3_init 79 = .ok (.new 9, 3) := by decide +kernel
theorem dX3_init_82 : decode cX3_init 82 = .ok (.dup, 1) := by decide +kernel
theorem dX3_init_83 : decode cX3_init 83 = .ok (.invokespecial 50, 3) := by decide +kernel
theorem dX3_init_86 : decode cX3_init 86 = .ok (.aastore, 1) := by decide +kernel
theorem dX3_init_87 : decode cX3_init 87 = .ok (.iinc 1 1, 3) := by decide +kernel
theorem dX3_init_90 : decode cX3_init 90 = .ok (.goto (-22), 3) := by decide +kernel
theorem dX3_init_93 : decode cX3_init 93 = .ok (.iconst 0, 1) := by decide +kernel
theorem dX3_init_94 : decode cX3_init 94 = .ok (.istore_n 1, 1) := by decide +kernel
theorem dX3_init_95 : decode cX3_init 95 = .ok (.iload_n 1, 1) := by decide +kernel
theorem dX3_init_96 : decode cX3_init 96 = .ok (.iconst 3, 1) := by decide +kernel
theorem dX3_init_97 : decode cX3_init 97 = .ok (.if_icmp .ge 22, 3) := by decide +kernel
theorem dX3_init_100 : decode cX3_init 100 = .ok (.aload_n 0, 1) := by decide +kernel
theorem dX3_init_101 : decode cX3_init 101 = .ok (.getfield 19, 3) := by decide +kernel
theorem dX3_init_104 : decode cX3_init 104 = .ok (.iload_n 1, 1) := by decide +kernel
theorem dX3_init_105 : decode cX3_init 105 = .ok (.new 17, 3) := by decide +kernel
theorem dX3_init_108 : decode cX3_init 108 = .ok (.dup, 1) := by decide +kernel
theorem dX3_init_109 : decode cX3_init 109 = .ok (.invokespecial 51, 3) := by decide +kernel
theorem dX3_init_112 : decode cX3_init 112 = .ok (.aastore, 1) := by decide +kernel
theorem dX3_init_113 : decode cX3_init 113 = .ok (.iinc 1 1, 3) := by decide +kernel
theorem dX3_init_116 : decode cX3_init 116 = .ok (.goto (-21), 3) := by decide +kernel
theorem dX3_init_119 : decode cX3_init 119 = .ok (.return_, 1) := by decide +kernel
theorem dX3_hasThing_0 : decode cX3_hasThing 0 = .ok (.iload_n 1, 1) := by decide +kernel
theorem dX3_hasThing_1 : decode cX3_hasThing 1 = .ok (.ifCond .lt 15, 3) := by decide +kernel
theorem dX3_hasThing_4 : decode cX3_hasThing 4 = .ok (.iload_n 1, 1) := by decide +kernel
theorem dX3_hasThing_5 : decode cX3_hasThing 5 = .ok (.aload_n 0, 1) := by decide +kernel
theorem dX3_hasThing_6 : decode cX3_hasThing 6 = .ok (.getfield 30, 3) := by decide +kernel
theorem dX3_hasThing_9 : decode cX3_hasThing 9 = .ok (.if_icmp .ge 7, 3) := by decide +kernel
theorem dX3_hasThing_12 : decode cX3_hasThing 12 = .ok (.iconst 1, 1) := by decide +kernel
theorem dX3_hasThing_13 : decode cX3_hasThing 13 = .ok (.goto 4, 3) := by decide +kernel
theorem dX3_hasThing_16 : decode cX3_hasThing 16 = .ok (.iconst 0, 1) := by decide +kernel
theorem dX3_hasThing_17 : decode cX3_hasThing 17 = .ok (.ireturn, 1) := by decide +kernel
theorem dX3_hasFerry_0 : decode cX3_hasFerry 0 = .ok (.iload_n 1, 1) := by decide +kernel
theorem dX3_hasFerry_1 : decode cX3_hasFerry 1 = .ok (.ifCond .lt 15, 3) := by decide +kernel
theorem dX3_hasFerry_4 : decode cX3_hasFerry 4 = .ok (.iload_n 1, 1) := by decide +kernel
theorem dX3_hasFerry_5 : decode cX3_hasFerry 5 = .ok (.aload_n 0, 1) := by decide +kernel
theorem dX3_hasFerry_6 : decode cX3_hasFerry 6 = .ok (.getfield 34, 3) := by decide +kernel
theorem dX3_hasFerry_9 : decode cX3_hasFerry 9 = .ok (.if_icmp .ge 7, 3) := by decide +kernel
theorem dX3_hasFerry_12 : decode cX3_hasFerry 12 = .ok (.iconst 1, 1) := by decide +kernel
theorem dX3_hasFerry_13 : decode cX3_hasFerry 13 = .ok (.goto 4, 3) := by decide +kernel
theorem dX3_hasFerry_16 : decode cX3_hasFerry 16 = .ok (.iconst 0, 1) := by decide +kernel
theorem dX3_hasFerry_17 : decode cX3_hasFerry 17 = .ok (.ireturn, 1) := by decide +kernel
theorem dX3_hasAll_0 : decode cX3_hasAll 0 = .ok (.iload_n 1, 1) := by decide +kernel
theorem dX3_hasAll_1 : decode cX3_hasAll 1 = .ok (.ifCond .lt 17, 3) := by decide +kernel
theorem dX3_hasAll_4 : decode cX3_hasAll 4 = .ok (.iload_n 1, 1) := by decide +kernel
theorem dX3_hasAll_5 : decode cX3_hasAll 5 = .ok (.iconst 1, 1) := by decide +kernel
theorem dX3_hasAll_6 : decode cX3_hasAll 6 = .ok (.aload_n 0, 1) := by decide +kernel
theorem dX3_hasAll_7 : decode cX3_hasAll 7 = .ok (.getfield 30, 3) := by decide +kernel
theorem dX3_hasAll_10 : decode cX3_hasAll 10 = .ok (.ishl, 1) := by decide +kernel
theorem dX3_hasAll_11 : decode cX3_hasAll 11 = .ok (.if_icmp .ge 7, 3) := by decide +kernel
theorem dX3_hasAll_14 : decode cX3_hasAll 14 = .ok (.iconst 1, 1) := by decide +kernel
theorem dX3_hasAll_15 : decode cX3_hasAll 15 = .ok (.goto 4, 3) := by decide +kernel
theorem dX3_hasAll_18 : decode cX3_hasAll 18 = .ok (.iconst 0, 1) := by decide +kernel
theorem dX3_hasAll_19 : decode cX3_hasAll 19 = .ok (.ireturn, 1) := by decide +kernel
theorem dX3_carryOut_0 : decode cX3_carryOut 0 = .ok (.aload_n 1, 1) := by decide +kernel
theorem dX3_carryOut_1 : decode cX3_carryOut 1 = .ok (.getfield 52, 3) := by decide +kernel
theorem dX3_carryOut_4 : decode cX3_carryOut 4 = .ok (.astore_n 2, 1) := by decide +kernel
theorem dX3_carryOut_5 : decode cX3_carryOut 5 = .ok (.aload_n 1, 1) := by decide +kernel
theorem dX3_carryOut_6 : decode cX3_carryOut 6 = .ok (.getfield 57, 3) := by decide +kernel
theorem dX3_carryOut_9 : decode cX3_carryOut 9 = .ok (.astore_n 3, 1) := by decide +kernel
theorem dX3_carryOut_10 : decode cX3_carryOut 10 = .ok (.aload_n 3, 1) := by decide +kernel
theorem dX3_carryOut_11 : decode cX3_carryOut 11 = .ok (.getstatic 61, 3) := by decide +kernel
theorem dX3_carryOut_14 : decode cX3_carryOut 14 = .ok (.if_acmp .ne 16, 3) := by decide +kernel
theorem dX3_carryOut_17 : decode cX3_carryOut 17 = .ok (.aload_n 0, 1) := by decide +kernel
theorem dX3_carryOut_18 : decode cX3_carryOut 18 = .ok (.iconst 0, 1) := by decide +kernel
theorem dX3_carryOut_19 : decode cX3_carryOut 19 = .ok (.putfield 30, 3) := by decide +kernel
theorem dX3_carryOut_22 : decode cX3_carryOut 22 = .ok (.aload_n 0, 1) := by decide +kernel
theorem dX3_carryOut_23 : decode cX3_carryOut 23 = .ok (.iconst 0, 1) := by decide +kernel
theorem dX3_carryOut_24 : decode cX3_carryOut 24 = .ok (.putfield 34, 3) := by decide +kernel
theorem dX3_carryOut_27 : decode cX3_carryOut 27 = .ok (.goto 68, 3) := by decide +kernel
theorem dX3_carryOut_30 : decode cX3_carryOut 30 = .ok (.aload_n 3, 1) := by decide +kernel
theorem dX3_carryOut_31 : decode cX3_carryOut 31 = .ok (.getfield 66, 3) := by decide +kernel
theorem dX3_carryOut_34 : decode cX3_carryOut 34 = .ok (.iconst (-1), 1) := by decide +kernel
theorem dX3_carryOut_35 : decode cX3_carryOut 35 = .ok (.if_icmp .eq 15, 3) := by decide +kernel
theorem dX3_carryOut_38 : decode cX3_carryOut 38 = .ok (.aload_n 0, 1) := by decide +kernel
theorem dX3_carryOut_39 : decode cX3_carryOut 39 = .ok (.aload_n 3, 1) := by decide +kernel
theorem dX3_carryOut_40 : decode cX3_carryOut 40 = .ok (.getfield 66, 3) := by decide +kernel
theorem dX3_carryOut_43 : decode cX3_carryOut 43 = .ok (.aload_n 2, 1) := by decide +kernel
theorem dX3_carryOut_44 : decode cX3_carryOut 44 = .ok (.invokevirtual 69, 3) := by decide +kernel
theorem dX3_carryOut_47 : decode cX3_carryOut 47 = .ok (.goto 48, 3) := by decide +kernel
theorem dX3_carryOut_50 : decode cX3_carryOut 50 = .ok (.aload_n 3, 1) := by decide +kernel
theorem dX3_carryOut_51 : decode cX3_carryOut 51 = .ok (.getfield 73, 3) := by decide +kernel
theorem dX3_carryOut_54 : decode cX3_carryOut 54 = .ok (.iconst (-1), 1) := by decide +kernel
theorem dX3_carryOut_55 : decode cX3_carryOut 55 = .ok (.if_icmp .eq 15, 3) := by decide +kernel
theorem dX3_carryOut_58 : decode cX3_carryOut 58 = .ok (.aload_n 0, 1) := by decide +kernel
theorem dX3_carryOut_59 : decode cX3_carryOut 59 = .ok (.aload_n 3, 1) := by decide +kernel
theorem dX3_carryOut_60 : decode cX3_carryOut 60 = .ok (.getfield 73, 3) := by decide +kernel
theorem dX3_carryOut_63 : decode cX3_carryOut 63 = .ok (.aload_n 2, 1) := by decide +kernel
theorem dX3_carryOut_64 : decode cX3_carryOut 64 = .ok (.invokevirtual 76, 3) := by decide +kernel
theorem dX3_carryOut_67 : decode cX3_carryOut 67 = .ok (.goto 28, 3) := by decide +kernel
theorem dX3_carryOut_70 : decode cX3_carryOut 70 = .ok (.aload_n 0, 1) := by decide +kernel
theorem dX3_carryOut_71 : decode cX3_carryOut 71 = .ok (.aload_n 2, 1) := by decide +kernel
theorem dX3_carryOut_72 : decode cX3_carryOut 72 = .ok (.iconst 0, 1) := by decide +kernel
theorem dX3_carryOut_73 : decode cX3_carryOut 73 = .ok (.iaload, 1) := by decide +kernel
theorem dX3_carryOut_74 : decode cX3_carryOut 74 = .ok (.invokevirtual 79, 3) := by decide +kernel
theorem dX3_carryOut_77 : decode cX3_carryOut 77 = .ok (.ifCond .eq 18, 3) := by decide +kernel
theorem dX3_carryOut_80 : decode cX3_carryOut 80 = .ok (.aload_n 0, 1) := by decide +kernel
theorem dX3_carryOut_81 : decode cX3_carryOut 81 = .ok (.getfield 11, 3) := by decide +kernel
theorem dX3_carryOut_84 : decode cX3_carryOut 84 = .ok (.aload_n 2, 1) := by decide +kernel
theorem dX3_carryOut_85 : decode cX3_carryOut 85 = .ok (.iconst 0, 1) := by decide +kernel
theorem dX3_carryOut_86 : decode cX3_carryOut 86 = .ok (.iaload, 1) := by decide +kernel
theorem dX3_carryOut_87 : decode cX3_carryOut 87 = .ok (.aaload, 1) := by decide +kernel
theorem dX3_carryOut_88 : decode cX3_carryOut 88 = .ok (.aload_n 3, 1) := by decide +kernel
theorem dX3_carryOut_89 : decode cX3_carryOut 89 = .ok (.aload_n 2, 1) := by decide +kernel
theorem dX3_carryOut_90 : decode cX3_carryOut 90 = .ok (.iconst 1, 1) := by decide +kernel
theorem dX3_carryOut_91 : decode cX3_carryOut 91 = .ok (.iaload, 1) := by decide +kernel
theorem dX3_carryOut_92 : decode cX3_carryOut 92 = .ok (.invokestatic 83, 3) := by decide +kernel
theorem dX3_carryOut_95 : decode cX3_carryOut 95 = .ok (.return_, 1) := by decide +kernel
theorem dX3_addThing_0 : decode cX3_addThing 0 = .ok (.aload_n 0, 1) := by decide +kernel
theorem dX3_addThing_1 : decode cX3_addThing 1 = .ok (.getfield 30, 3) := by decide +kernel
theorem dX3_addThing_4 : decode cX3_addThing 4 = .ok (.bipush 8, 2) := by decide +kernel
theorem dX3_addThing_6 : decode cX3_addThing 6 = .ok (.if_icmp .ge 32, 3) := by decide +kernel
theorem dX3_addThing_9 : decode cX3_addThing 9 = .ok (.aload_n 0, 1) := by decide +kernel
theorem dX3_addThing_10 : decode cX3_addThing 10 = .ok (.getfield 11, 3) := by decide +kernel
theorem dX3_addThing_13 : decode cX3_addThing 13 = .ok (.aload_n 0, 1) := by decide +kernel
theorem dX3_addThing_14 : decode cX3_addThing 14 = .ok (.getfield 30, 3) := by decide +kernel
theorem dX3_addThing_17 : decode cX3_addThing 17 = .ok (.aaload, 1) := by decide +kernel
theorem dX3_addThing_18 : decode cX3_addThing 18 = .ok (.iload_n 1, 1) := by decide +kernel
theorem dX3_addThing_19 : decode cX3_addThing 19 = .ok (.aload_n 2, 1) := by decide +kernel
theorem dX3_addThing_20 : decode cX3_addThing 20 = .ok (.iconst 0, 1) := by decide +kernel
theorem dX3_addThing_21 : decode cX3_addThing 21 = .ok (.iaload, 1) := by decide +kernel
theorem dX3_addThing_22 : decode cX3_addThing 22 = .ok (.aload_n 2, 1) := by decide +kernel
theorem dX3_addThing_23 : decode cX3_addThing 23 = .ok (.iconst 1, 1) := by decide +kernel
theorem dX3_addThing_24 : decode cX3_addThing 24 = .ok (.iaload, 1) := by decide +kernel
theorem dX3_addThing_25 : decode cX3_addThing 25 = .ok (.invokevirtual 87, 3) := by decide +kernel
theorem dX3_addThing_28 : decode cX3_addThing 28 = .ok (.aload_n 0, 1) := by decide +kernel
theorem dX3_addThing_29 : decode cX3_addThing 29 = .ok (.dup, 1) := by decide +kernel
theorem dX3_addThing_30 : decode cX3_addThing 30 = .ok (.getfield 30, 3) := by decide +kernel
theorem dX3_addThing_33 : decode cX3_addThing 33 = .ok (.iconst 1, 1) := by decide +kernel
theorem dX3_addThing_34 : decode cX3_addThing 34 = .ok (.iadd, 1) := by decide +kernel
theorem dX3_addThing_35 : decode cX3_addThing 35 = .ok (.putfield 30, 3) := by decide +kernel
theorem dX3_addThing_38 : decode cX3_addThing 38 = .ok (.return_, 1) := by decide +kernel
theorem dX3_addFerry_0 : decode cX3_addFerry 0 = .ok (.aload_n 0, 1) := by decide +kernel
theorem dX3_addFerry_1 : decode cX3_addFerry 1 = .ok (.getfield 34, 3) := by decide +kernel
theorem dX3_addFerry_4 : decode cX3_addFerry 4 = .ok (.iconst 3, 1) := by decide +kernel
theorem dX3_addFerry_5 : decode cX3_addFerry 5 = .ok (.if_icmp .ge 38, 3) := by decide +kernel
theorem dX3_addFerry_8 : decode cX3_addFerry 8 = .ok (.aload_n 0, 1) := by decide +kernel
theorem dX3_addFerry_9 : decode cX3_addFerry 9 = .ok (.getfield 19, 3) := by decide +kernel
theorem dX3_addFerry_12 : decode cX3_addFerry 12 = .ok (.aload_n 0, 1) := by decide +kernel
theorem dX3_addFerry_13 : decode cX3_addFerry 13 = .ok (.getfield 34, 3) := by decide +kernel
theorem dX3_addFerry_16 : decode cX3_addFerry 16 = .ok (.aaload, 1) := by decide +kernel
theorem dX3_addFerry_17 : decode cX3_addFerry 17 = .ok (.iload_n 1, 1) := by decide +kernel
theorem dX3_addFerry_18 : decode cX3_addFerry 18 = .ok (.aload_n 2, 1) := by decide +kernel
theorem dX3_addFerry_19 : decode cX3_addFerry 19 = .ok (.iconst 0, 1) := by decide +kernel
theorem dX3_addFerry_20 : decode cX3_addFerry 20 = .ok (.iaload, 1) := by decide +kernel
theorem dX3_addFerry_21 : decode cX3_addFerry 21 = .ok (.aload_n 2, 1) := by decide +kernel
theorem dX3_addFerry_22 : decode cX3_addFerry 22 = .ok (.iconst 1, 1) := by decide +kernel
theorem dX3_addFerry_23 : decode cX3_addFerry 23 = .ok (.iaload, 1) := by decide +kernel
theorem dX3_addFerry_24 : decode cX3_addFerry 24 = .ok (.aload_n 2, 1) := by decide +kernel
theorem dX3_addFerry_25 : decode cX3_addFerry 25 = .ok (.iconst 2, 1) := by decide +kernel
theorem dX3_addFerry_26 : decode cX3_addFerry 26 = .ok (.iaload, 1) := by decide +kernel
theorem dX3_addFerry_27 : decode cX3_addFerry 27 = .ok (.aload_n 2, 1) := by decide +kernel
theorem dX3_addFerry_28 : decode cX3_addFerry 28 = .ok (.iconst 3, 1) := by decide +kernel
theorem dX3_addFerry_29 : decode cX3_addFerry 29 = .ok (.iaload, 1) := by decide +kernel
theorem dX3_addFerry_30 : decode cX3_addFerry 30 = .ok (.invokevirtual 91, 3) := by decide +kernel
theorem dX3_addFerry_33 : decode cX3_addFerry 33 = .ok (.aload_n 0, 1) := by decide +kernel
theorem dX3_addFerry_34 : decode cX3_addFerry 34 = .ok (.dup, 1) := by decide +kernel
theorem dX3_addFerry_35 : decode cX3_addFerry 35 = .ok (.getfield 34, 3) := by decide +kernel
theorem dX3_addFerry_38 : decode cX3_addFerry 38 = .ok (.iconst 1, 1) := by decide +kernel
theorem dX3_addFerry_39 : decode cX3_addFerry 39 = .ok (.iadd, 1) := by decide +kernel
theorem dX3_addFerry_40 : decode cX3_addFerry 40 = .ok (.putfield 34, 3) := by decide +kernel
theorem dX3_addFerry_43 : decode cX3_addFerry 43 = .ok (.return_, 1) := by decide +kernel
theorem dX3_change_0 : decode cX3_change 0 = .ok (.aload_n 1, 1) := by decide +kernel
theorem dX3_change_1 : decode cX3_change 1 = .ok (.getstatic 94, 3) := by decide +kernel
theorem dX3_change_4 : decode cX3_change 4 = .ok (.if_acmp .ne 11, 3) := by decide +kernel
theorem dX3_change_7 : decode cX3_change 7 = .ok (.aload_n 0, 1) := by decide +kernel
theorem dX3_change_8 : decode cX3_change 8 = .ok (.iload_n 2, 1) := by decide +kernel
theorem dX3_change_9 : decode cX3_change 9 = .ok (.putfield 97, 3) := by decide +kernel
theorem dX3_change_12 : decode cX3_change 12 = .ok (.goto 30, 3) := by decide +kernel
theorem dX3_change_15 : decode cX3_change 15 = .ok (.aload_n 1, 1) := by decide +kernel
theorem dX3_change_16 : decode cX3_change 16 = .ok (.getstatic 100, 3) := by decide +kernel
theorem dX3_change_19 : decode cX3_change 19 = .ok (.if_acmp .ne 11, 3) := by decide +kernel
theorem dX3_change_22 : decode cX3_change 22 = .ok (.aload_n 0, 1) := by decide +kernel
theorem dX3_change_23 : decode cX3_change 23 = .ok (.iload_n 2, 1) := by decide +kernel
theorem dX3_change_24 : decode cX3_change 24 = .ok (.putfield 103, 3) := by decide +kernel
theorem dX3_change_27 : decode cX3_change 27 = .ok (.goto 15, 3) := by decide +kernel
theorem dX3_change_30 : decode cX3_change 30 = .ok (.aload_n 1, 1) := by decide +kernel
theorem dX3_change_31 : decode cX3_change 31 = .ok (.getstatic 106, 3) := by decide +kernel
theorem dX3_change_34 : decode cX3_change 34 = .ok (.if_acmp .ne 8, 3) := by decide +kernel
theorem dX3_change_37 : decode cX3_change 37 = .ok (.aload_n 0, 1) := by decide +kernel
theorem dX3_change_38 : decode cX3_change 38 = .ok (.iconst 1, 1) := by decide +kernel
theorem dX3_change_39 : decode cX3_change 39 = .ok (.putfield 109, 3) := by decide +kernel
theorem dX3_change_42 : decode cX3_change 42 = .ok (.return_, 1) := by decide +kernel
theorem dX3_beginDay_0 : decode cX3_beginDay 0 = .ok (.aload_n 0, 1) := by decide +kernel
theorem dX3_beginDay_1 : decode cX3_beginDay 1 = .ok (.getfield 26, 3) := by decide +kernel
theorem dX3_beginDay_4 : decode cX3_beginDay 4 = .ok (.iconst 0, 1) := by decide +kernel
theorem dX3_beginDay_5 : decode cX3_beginDay 5 = .ok (.putfield 112, 3) := by decide +kernel
theorem dX3_beginDay_8 : decode cX3_beginDay 8 = .ok (.aload_n 0, 1) := by decide +kernel
theorem dX3_beginDay_9 : decode cX3_beginDay 9 = .ok (.iconst 0, 1) := by decide +kernel
theorem dX3_beginDay_10 : decode cX3_beginDay 10 = .ok (.putfield 37, 3) := by decide +kernel
theorem dX3_beginDay_13 : decode cX3_beginDay 13 = .ok (.aload_n 0, 1) := by decide +kernel
theorem dX3_beginDay_14 : decode cX3_beginDay 14 = .ok (.iconst 0, 1) := by decide +kernel
theorem dX3_beginDay_15 : decode cX3_beginDay 15 = .ok (.putfield 40, 3) := by decide +kernel
theorem dX3_beginDay_18 : decode cX3_beginDay 18 = .ok (.aload_n 0, 1) := by decide +kernel
theorem dX3_beginDay_19 : decode cX3_beginDay 19 = .ok (.iconst 0, 1) := by decide +kernel
theorem dX3_beginDay_20 : decode cX3_beginDay 20 = .ok (.putfield 43, 3) := by decide +kernel
theorem dX3_beginDay_23 : decode cX3_beginDay 23 = .ok (.iconst 0, 1) := by decide +kernel
theorem dX3_beginDay_24 : decode cX3_beginDay 24 = .ok (.istore_n 1, 1) := by decide +kernel
theorem dX3_beginDay_25 : decode cX3_beginDay 25 = .ok (.iload_n 1, 1) := by decide +kernel
theorem dX3_beginDay_26 : decode cX3_beginDay 26 = .ok (.aload_n 0, 1) := by decide +kernel
theorem dX3_beginDay_27 : decode cX3_beginDay 27 = .ok (.getfield 30, 3) := by decide +kernel
theorem dX3_beginDay_30 : decode cX3_beginDay 30 = .ok (.if_icmp .ge 103, 3) := by decide +kernel
theorem dX3_beginDay_33 : decode cX3_beginDay 33 = .ok (.aload_n 0, 1) := by decide +kernel
theorem dX3_beginDay_34 : decode cX3_beginDay 34 = .ok (.getfield 11, 3) := by decide +kernel
theorem dX3_beginDay_37 : decode cX3_beginDay 37 = .ok (.iload_n 1, 1) := by decide +kernel
theorem dX3_beginDay_38 : decode cX3_beginDay 38 = .ok (.aaload, 1) := by decide +kernel
theorem dX3_beginDay_39 : decode cX3_beginDay 39 = .ok (.astore_n 2, 1) := by decide +kernel
theorem dX3_beginDay_40 : decode cX3_beginDay 40 = .ok (.aload_n 0, 1) := by decide +kernel
theorem dX3_beginDay_41 : decode cX3_beginDay 41 = .ok (.getfield 26, 3) := by decide +kernel
theorem dX3_beginDay_44 : decode cX3_beginDay 44 = .ok (.dup, 1) := by decide +kernel
theorem dX3_beginDay_45 : decode cX3_beginDay 45 = .ok (.getfield 112, 3) := by decide +kernel
theorem dX3_beginDay_48 : decode cX3_beginDay 48 = .ok (.aload_n 2, 1) := by decide +kernel
theorem dX3_beginDay_49 : decode cX3_beginDay 49 = .ok (.getfield 115, 3) := by decide +kernel
theorem dX3_beginDay_52 : decode cX3_beginDay 52 = .ok (.iload_n 1, 1) := by decide +kernel
theorem dX3_beginDay_53 : decode cX3_beginDay 53 = .ok (.ishl, 1) := by decide +kernel
theorem dX3_beginDay_54 : decode cX3_beginDay 54 = .ok (.ior, 1) := by decide +kernel
theorem dX3_beginDay_55 : decode cX3_beginDay 55 = .ok (.putfield 112, 3) := by decide +kernel
theorem dX3_beginDay_58 : decode cX3_beginDay 58 = .ok (.aload_n 0, 1) := by decide +kernel
theorem dX3_beginDay_59 : decode cX3_beginDay 59 = .ok (.dup, 1) := by decide +kernel
theorem dX3_beginDay_60 : decode cX3_beginDay 60 = .ok (.getfield 37, 3) := by decide +kernel
theorem dX3_beginDay_63 : decode cX3_beginDay 63 = .ok (.aload_n 2, 1) := by decide +kernel
theorem dX3_beginDay_64 : decode cX3_beginDay 64 = .ok (.getfield 118, 3) := by decide +kernel
theorem dX3_beginDay_67 : decode cX3_beginDay 67 = .ok (.ifCond .ne 9, 3) := by decide +kernel
theorem dX3_beginDay_70 : decode cX3_beginDay 70 = .ok (.iconst 1, 1) := by decide +kernel
theorem dX3_beginDay_71 : decode cX3_beginDay 71 = .ok (.iload_n 1, 1) := by decide +kernel
theorem dX3_beginDay_72 : decode cX3_beginDay 72 = .ok (.ishl, 1) := by decide +kernel
theorem dX3_beginDay_73 : decode cX3_beginDay 73 = .ok (.goto 4, 3) := by decide +kernel
theorem dX3_beginDay_76 : decode cX3_beginDay 76 = .ok (.iconst 0, 1) := by decide +kernel
theorem dX3_beginDay_77 : decode cX3_beginDay 77 = .ok (.ior, 1) := by decide +kernel
theorem dX3_beginDay_78 : decode cX3_beginDay 78 = .ok (.putfield 37, 3) := by decide +kernel
theorem dX3_beginDay_81 : decode cX3_beginDay 81 = .ok (.aload_n 0, 1) := by decide +kernel
theorem dX3_beginDay_82 : decode cX3_beginDay 82 = .ok (.dup, 1) := by decide +kernel
theorem dX3_beginDay_83 : decode cX3_beginDay 83 = .ok (.getfield 40, 3) := by decide +kernel
theorem dX3_beginDay_86 : decode cX3_beginDay 86 = .ok (.aload_n 2, 1) := by decide +kernel
theorem dX3_beginDay_87 : decode cX3_beginDay 87 = .ok (.invokevirtual 121, 3) := by decide +kernel
theorem dX3_beginDay_90 : decode cX3_beginDay 90 = .ok (.ifCond .eq 9, 3) := by decide +kernel
theorem dX3_beginDay_93 : decode cX3_beginDay 93 = .ok (.iconst 1, 1) := by decide +kernel
theorem dX3_beginDay_94 : decode cX3_beginDay 94 = .ok (.iload_n 1, 1) := by decide +kernel
theorem dX3_beginDay_95 : decode cX3_beginDay 95 = .ok (.ishl, 1) := by decide +kernel
theorem dX3_beginDay_96 : decode cX3_beginDay 96 = .ok (.goto 4, 3) := by decide +kernel
theorem dX3_beginDay_99 : decode cX3_beginDay 99 = .ok (.iconst 0, 1) := by decide +kernel
theorem dX3_beginDay_100 : decode cX3_beginDay 100 = .ok (.ior, 1) := by decide +kernel
theorem dX3_beginDay_101 : decode cX3_beginDay 101 = .ok (.putfield 40, 3) := by decide +kernel
theorem dX3_beginDay_104 : decode cX3_beginDay 104 = .ok (.aload_n 0, 1) := by decide +kernel
theorem dX3_beginDay_105 : decode cX3_beginDay 105 = .ok (.dup, 1) := by decide +kernel
theorem dX3_beginDay_106 : decode cX3_beginDay 106 = .ok (.getfield 43, 3) := by decide +kernel
theorem dX3_beginDay_109 : decode cX3_beginDay 109 = .ok (.aload_n 2, 1) := by decide +kernel
theorem dX3_beginDay_110 : decode cX3_beginDay 110 = .ok (.getfield 109, 3) := by decide +kernel
theorem dX3_beginDay_113 : decode cX3_beginDay 113 = .ok (.ifCond .eq 9, 3) := by decide +kernel
theorem dX3_beginDay_116 : decode cX3_beginDay 116 = .ok (.iconst 1, 1) := by decide +kernel
theorem dX3_beginDay_117 : decode cX3_beginDay 117 = .ok (.iload_n 1, 1) := by decide +kernel
theorem dX3_beginDay_118 : decode cX3_beginDay 118 = .ok (.ishl, 1) := by decide +kernel
theorem dX3_beginDay_119 : decode cX3_beginDay 119 = .ok (.goto 4, 3) := by decide +kernel
theorem dX3_beginDay_122 : decode cX3_beginDay 122 = .ok (.iconst 0, 1) := by decide +kernel
theorem dX3_beginDay_123 : decode cX3_beginDay 123 = .ok (.ior, 1) := by decide +kernel
theorem dX3_beginDay_124 : decode cX3_beginDay 124 = .ok (.putfield 43, 3) := by decide +kernel
theorem dX3_beginDay_127 : decode cX3_beginDay 127 = .ok (.iinc 1 1, 3) := by decide +kernel
theorem dX3_beginDay_130 : decode cX3_beginDay 130 = .ok (.goto (-105), 3) := by decide +kernel
theorem dX3_beginDay_133 : decode cX3_beginDay 133 = .ok (.iconst 0, 1) := by decide +kernel
theorem dX3_beginDay_134 : decode cX3_beginDay 134 = .ok (.istore_n 1, 1) := by decide +kernel
theorem dX3_beginDay_135 : decode cX3_beginDay 135 = .ok (.iload_n 1, 1) := by decide +kernel
theorem dX3_beginDay_136 : decode cX3_beginDay 136 = .ok (.aload_n 0, 1) := by decide +kernel
theorem dX3_beginDay_137 : decode cX3_beginDay 137 = .ok (.getfield 34, 3) := by decide +kernel
theorem dX3_beginDay_140 : decode cX3_beginDay 140 = .ok (.if_icmp .ge 36, 3) := by decide +kernel
theorem dX3_beginDay_143 : decode cX3_beginDay 143 = .ok (.aload_n 0, 1) := by decide +kernel
theorem dX3_beginDay_144 : decode cX3_beginDay 144 = .ok (.getfield 26, 3) := by decide +kernel
theorem dX3_beginDay_147 : decode cX3_beginDay 147 = .ok (.dup, 1) := by decide +kernel
theorem dX3_beginDay_148 : decode cX3_beginDay 148 = .ok (.getfield 112, 3) := by decide +kernel
theorem dX3_beginDay_151 : decode cX3_beginDay 151 = .ok (.sipush 256, 3) := by decide +kernel
theorem dX3_beginDay_154 : decode cX3_beginDay 154 = .ok (.aload_n 0, 1) := by decide +kernel
theorem dX3_beginDay_155 : decode cX3_beginDay 155 = .ok (.getfield 19, 3) := by decide +kernel
theorem dX3_beginDay_158 : decode cX3_beginDay 158 = .ok (.iload_n 1, 1) := by decide +kernel
theorem dX3_beginDay_159 : decode cX3_beginDay 159 = .ok (.aaload, 1) := by decide +kernel
theorem dX3_beginDay_160 : decode cX3_beginDay 160 = .ok (.getfield 125, 3) := by decide +kernel
theorem dX3_beginDay_163 : decode cX3_beginDay 163 = .ok (.imul, 1) := by decide +kernel
theorem dX3_beginDay_164 : decode cX3_beginDay 164 = .ok (.iload_n 1, 1) := by decide +kernel
theorem dX3_beginDay_165 : decode cX3_beginDay 165 = .ok (.ishl, 1) := by decide +kernel
theorem dX3_beginDay_166 : decode cX3_beginDay 166 = .ok (.ior, 1) := by decide +kernel
theorem dX3_beginDay_167 : decode cX3_beginDay 167 = .ok (.putfield 112, 3) := by decide +kernel
theorem dX3_beginDay_170 : decode cX3_beginDay 170 = .ok (.iinc 1 1, 3) := by decide +kernel
theorem dX3_beginDay_173 : decode cX3_beginDay 173 = .ok (.goto (-38), 3) := by decide +kernel
theorem dX3_beginDay_176 : decode cX3_beginDay 176 = .ok (.aload_n 0, 1) := by decide +kernel
theorem dX3_beginDay_177 : decode cX3_beginDay 177 = .ok (.getfield 26, 3) := by decide +kernel
theorem dX3_beginDay_180 : decode cX3_beginDay 180 = .ok (.iconst 0, 1) := by decide +kernel
theorem dX3_beginDay_181 : decode cX3_beginDay 181 = .ok (.putfield 126, 3) := by decide +kernel
theorem dX3_beginDay_184 : decode cX3_beginDay 184 = .ok (.aload_n 0, 1) := by decide +kernel
theorem dX3_beginDay_185 : decode cX3_beginDay 185 = .ok (.getfield 26, 3) := by decide +kernel
theorem dX3_beginDay_188 : decode cX3_beginDay 188 = .ok (.iconst 0, 1) := by decide +kernel
theorem dX3_beginDay_189 : decode cX3_beginDay 189 = .ok (.putfield 129, 3) := by decide +kernel
theorem dX3_beginDay_192 : decode cX3_beginDay 192 = .ok (.aload_n 0, 1) := by decide +kernel
theorem dX3_beginDay_193 : decode cX3_beginDay 193 = .ok (.getfield 26, 3) := by decide +kernel
theorem dX3_beginDay_196 : decode cX3_beginDay 196 = .ok (.iconst 0, 1) := by decide +kernel
theorem dX3_beginDay_197 : decode cX3_beginDay 197 = .ok (.putfield 132, 3) := by decide +kernel
theorem dX3_beginDay_200 : decode cX3_beginDay 200 = .ok (.aload_n 0, 1) := by decide +kernel
theorem dX3_beginDay_201 : decode cX3_beginDay 201 = .ok (.invokevirtual 135, 3) := by decide +kernel
theorem dX3_beginDay_204 : decode cX3_beginDay 204 = .ok (.return_, 1) := by decide +kernel
theorem dX3_hatIsOn_0 : decode cX3_hatIsOn 0 = .ok (.aload_n 0, 1) := by decide +kernel
theorem dX3_hatIsOn_1 : decode cX3_hatIsOn 1 = .ok (.getfield 40, 3) := by decide +kernel
theorem dX3_hatIsOn_4 : decode cX3_hatIsOn 4 = .ok (.aload_n 0, 1) := by decide +kernel
theorem dX3_hatIsOn_5 : decode cX3_hatIsOn 5 = .ok (.getfield 26, 3) := by decide +kernel
theorem dX3_hatIsOn_8 : decode cX3_hatIsOn 8 = .ok (.getfield 126, 3) := by decide +kernel
theorem dX3_hatIsOn_11 : decode cX3_hatIsOn 11 = .ok (.iconst (-1), 1) := by decide +kernel
theorem dX3_hatIsOn_12 : decode cX3_hatIsOn 12 = .ok (.ixor, 1) := by decide +kernel
theorem dX3_hatIsOn_13 : decode cX3_hatIsOn 13 = .ok (.iand, 1) := by decide +kernel
theorem dX3_hatIsOn_14 : decode cX3_hatIsOn 14 = .ok (.iload_n 1, 1) := by decide +kernel
theorem dX3_hatIsOn_15 : decode cX3_hatIsOn 15 = .ok (.ishr, 1) := by decide +kernel
theorem dX3_hatIsOn_16 : decode cX3_hatIsOn 16 = .ok (.iconst 1, 1) := by decide +kernel
theorem dX3_hatIsOn_17 : decode cX3_hatIsOn 17 = .ok (.iand, 1) := by decide +kernel
theorem dX3_hatIsOn_18 : decode cX3_hatIsOn 18 = .ok (.iconst 1, 1) := by decide +kernel
theorem dX3_hatIsOn_19 : decode cX3_hatIsOn 19 = .ok (.if_icmp .ne 7, 3) := by decide +kernel
theorem dX3_hatIsOn_22 : decode cX3_hatIsOn 22 = .ok (.iconst 1, 1) := by decide +kernel
theorem dX3_hatIsOn_23 : decode cX3_hatIsOn 23 = .ok (.goto 4, 3) := by decide +kernel
theorem dX3_hatIsOn_26 : decode cX3_hatIsOn 26 = .ok (.iconst 0, 1) := by decide +kernel
theorem dX3_hatIsOn_27 : decode cX3_hatIsOn 27 = .ok (.ireturn, 1) := by decide +kernel
theorem dX3_turnHat_0 : decode cX3_turnHat 0 = .ok (.aload_n 0, 1) := by decide +kernel
theorem dX3_turnHat_1 : decode cX3_turnHat 1 = .ok (.getfield 26, 3) := by decide +kernel
theorem dX3_turnHat_4 : decode cX3_turnHat 4 = .ok (.dup, 1) := by decide +kernel
theorem dX3_turnHat_5 : decode cX3_turnHat 5 = .ok (.getfield 126, 3) := by decide +kernel
theorem dX3_turnHat_8 : decode cX3_turnHat 8 = .ok (.iconst 1, 1) := by decide +kernel
theorem dX3_turnHat_9 : decode cX3_turnHat 9 = .ok (.iload_n 1, 1) := by decide +kernel
theorem dX3_turnHat_10 : decode cX3_turnHat 10 = .ok (.ishl, 1) := by decide +kernel
theorem dX3_turnHat_11 : decode cX3_turnHat 11 = .ok (.ixor, 1) := by decide +kernel
theorem dX3_turnHat_12 : decode cX3_turnHat 12 = .ok (.putfield 126, 3) := by decide +kernel
theorem dX3_turnHat_15 : decode cX3_turnHat 15 = .ok (.aload_n 0, 1) := by decide +kernel
theorem dX3_turnHat_16 : decode cX3_turnHat 16 = .ok (.invokevirtual 135, 3) := by decide +kernel
theorem dX3_turnHat_19 : decode cX3_turnHat 19 = .ok (.return_, 1) := by decide +kernel
theorem dX3_bringBack_0 : decode cX3_bringBack 0 = .ok (.aload_n 0, 1) := by decide +kernel
theorem dX3_bringBack_1 : decode cX3_bringBack 1 = .ok (.getfield 26, 3) := by decide +kernel
theorem dX3_bringBack_4 : decode cX3_bringBack 4 = .ok (.aload_n 1, 1) := by decide +kernel
theorem dX3_bringBack_5 : decode cX3_bringBack 5 = .ok (.invokevirtual 138, 3) := by decide +kernel
theorem dX3_bringBack_8 : decode cX3_bringBack 8 = .ok (.aload_n 0, 1) := by decide +kernel
theorem dX3_bringBack_9 : decode cX3_bringBack 9 = .ok (.invokevirtual 135, 3) := by decide +kernel
theorem dX3_bringBack_12 : decode cX3_bringBack 12 = .ok (.return_, 1) := by decide +kernel
theorem dX3_weighAll_0 : decode cX3_weighAll 0 = .ok (.iconst 0, 1) := by decide +kernel
theorem dX3_weighAll_1 : decode cX3_weighAll 1 = .ok (.istore_n 1, 1) := by decide +kernel
theorem dX3_weighAll_2 : decode cX3_weighAll 2 = .ok (.iload_n 1, 1) := by decide +kernel
theorem dX3_weighAll_3 : decode cX3_weighAll 3 = .ok (.aload_n 0, 1) := by decide +kernel
theorem dX3_weighAll_4 : decode cX3_weighAll 4 = .ok (.getfield 30, 3) := by decide +kernel
theorem dX3_weighAll_7 : decode cX3_weighAll 7 = .ok (.if_icmp .ge 74, 3) := by decide +kernel
theorem dX3_weighAll_10 : decode cX3_weighAll 10 = .ok (.aload_n 0, 1) := by decide +kernel
theorem dX3_weighAll_11 : decode cX3_weighAll 11 = .ok (.getfield 11, 3) := by decide +kernel
theorem dX3_weighAll_14 : decode cX3_weighAll 14 = .ok (.iload_n 1, 1) := by decide +kernel
theorem dX3_weighAll_15 : decode cX3_weighAll 15 = .ok (.aaload, 1) := by decide +kernel
theorem dX3_weighAll_16 : decode cX3_weighAll 16 = .ok (.getfield 142, 3) := by decide +kernel
theorem dX3_weighAll_19 : decode cX3_weighAll 19 = .ok (.aload_n 0, 1) := by decide +kernel
theorem dX3_weighAll_20 : decode cX3_weighAll 20 = .ok (.iload_n 1, 1) := by decide +kernel
theorem dX3_weighAll_21 : decode cX3_weighAll 21 = .ok (.invokevirtual 145, 3) := by decide +kernel
theorem dX3_weighAll_24 : decode cX3_weighAll 24 = .ok (.ifCond .eq 15, 3) := by decide +kernel
theorem dX3_weighAll_27 : decode cX3_weighAll 27 = .ok (.aload_n 0, 1) := by decide +kernel
theorem dX3_weighAll_28 : decode cX3_weighAll 28 = .ok (.getfield 11, 3) := by decide +kernel
theorem dX3_weighAll_31 : decode cX3_weighAll 31 = .ok (.iload_n 1, 1) := by decide +kernel
theorem dX3_weighAll_32 : decode cX3_weighAll 32 = .ok (.aaload, 1) := by decide +kernel
theorem dX3_weighAll_33 : decode cX3_weighAll 33 = .ok (.getfield 97, 3) := by decide +kernel
theorem dX3_weighAll_36 : decode cX3_weighAll 36 = .ok (.goto 4, 3) := by decide +kernel
theorem dX3_weighAll_39 : decode cX3_weighAll 39 = .ok (.iconst 0, 1) := by decide +kernel
theorem dX3_weighAll_40 : decode cX3_weighAll 40 = .ok (.iadd, 1) := by decide +kernel
theorem dX3_weighAll_41 : decode cX3_weighAll 41 = .ok (.istore_n 2, 1) := by decide +kernel
theorem dX3_weighAll_42 : decode cX3_weighAll 42 = .ok (.iconst 0, 1) := by decide +kernel
theorem dX3_weighAll_43 : decode cX3_weighAll 43 = .ok (.istore_n 3, 1) := by decide +kernel
theorem dX3_weighAll_44 : decode cX3_weighAll 44 = .ok (.iload_n 3, 1) := by decide +kernel
theorem dX3_weighAll_45 : decode cX3_weighAll 45 = .ok (.iconst 1, 1) := by decide +kernel
theorem dX3_weighAll_46 : decode cX3_weighAll 46 = .ok (.iload_n 1, 1) := by decide +kernel
theorem dX3_weighAll_47 : decode cX3_weighAll 47 = .ok (.ishl, 1) := by decide +kernel
theorem dX3_weighAll_48 : decode cX3_weighAll 48 = .ok (.if_icmp .ge 27, 3) := by decide +kernel
theorem dX3_weighAll_51 : decode cX3_weighAll 51 = .ok (.aload_n 0, 1) := by decide +kernel
theorem dX3_weighAll_52 : decode cX3_weighAll 52 = .ok (.getfield 46, 3) := by decide +kernel
theorem dX3_weighAll_55 : decode cX3_weighAll 55 = .ok (.iconst 1, 1) := by decide +kernel
theorem dX3_weighAll_56 : decode cX3_weighAll 56 = .ok (.iload_n 1, 1) := by decide +kernel
theorem dX3_weighAll_57 : decode cX3_weighAll 57 = .ok (.ishl, 1) := by decide +kernel
theorem dX3_weighAll_58 : decode cX3_weighAll 58 = .ok (.iload_n 3, 1) := by decide +kernel
theorem dX3_weighAll_59 : decode cX3_weighAll 59 = .ok (.ior, 1) := by decide +kernel
theorem dX3_weighAll_60 : decode cX3_weighAll 60 = .ok (.iload_n 2, 1) := by decide +kernel
theorem dX3_weighAll_61 : decode cX3_weighAll 61 = .ok (.aload_n 0, 1) := by decide +kernel
theorem dX3_weighAll_62 : decode cX3_weighAll 62 = .ok (.getfield 46, 3) := by decide +kernel
theorem dX3_weighAll_65 : decode cX3_weighAll 65 = .ok (.iload_n 3, 1) := by decide +kernel
theorem dX3_weighAll_66 : decode cX3_weighAll 66 = .ok (.iaload, 1) := by decide +kernel
theorem dX3_weighAll_67 : decode cX3_weighAll 67 = .ok (.iadd, 1) := by decide +kernel
theorem dX3_weighAll_68 : decode cX3_weighAll 68 = .ok (.iastore, 1) := by decide +kernel
theorem dX3_weighAll_69 : decode cX3_weighAll 69 = .ok (.iinc 3 1, 3) := by decide +kernel
theorem dX3_weighAll_72 : decode cX3_weighAll 72 = .ok (.goto (-28), 3) := by decide +kernel
theorem dX3_weighAll_75 : decode cX3_weighAll 75 = .ok (.iinc 1 1, 3) := by decide +kernel
theorem dX3_weighAll_78 : decode cX3_weighAll 78 = .ok (.goto (-76), 3) := by decide +kernel
theorem dX3_weighAll_81 : decode cX3_weighAll 81 = .ok (.return_, 1) := by decide +kernel
theorem dX3_poundsOf_0 : decode cX3_poundsOf 0 = .ok (.aload_n 0, 1) := by decide +kernel
theorem dX3_poundsOf_1 : decode cX3_poundsOf 1 = .ok (.iload_n 1, 1) := by decide +kernel
theorem dX3_poundsOf_2 : decode cX3_poundsOf 2 = .ok (.invokevirtual 148, 3) := by decide +kernel
theorem dX3_poundsOf_5 : decode cX3_poundsOf 5 = .ok (.ifCond .eq 12, 3) := by decide +kernel
theorem dX3_poundsOf_8 : decode cX3_poundsOf 8 = .ok (.aload_n 0, 1) := by decide +kernel
theorem dX3_poundsOf_9 : decode cX3_poundsOf 9 = .ok (.getfield 46, 3) := by decide +kernel
theorem dX3_poundsOf_12 : decode cX3_poundsOf 12 = .ok (.iload_n 1, 1) := by decide +kernel
theorem dX3_poundsOf_13 : decode cX3_poundsOf 13 = .ok (.iaload, 1) := by decide +kernel
theorem dX3_poundsOf_14 : decode cX3_poundsOf 14 = .ok (.goto 4, 3) := by decide +kernel
theorem dX3_poundsOf_17 : decode cX3_poundsOf 17 = .ok (.iconst 0, 1) := by decide +kernel
theorem dX3_poundsOf_18 : decode cX3_poundsOf 18 = .ok (.ireturn, 1) := by decide +kernel
theorem dX3_hatsOfAll_0 : decode cX3_hatsOfAll 0 = .ok (.iconst 0, 1) := by decide +kernel
theorem dX3_hatsOfAll_1 : decode cX3_hatsOfAll 1 = .ok (.istore_n 2, 1) := by decide +kernel
theorem dX3_hatsOfAll_2 : decode cX3_hatsOfAll 2 = .ok (.iconst 0, 1) := by decide +kernel
theorem dX3_hatsOfAll_3 : decode cX3_hatsOfAll 3 = .ok (.istore_n 3, 1) := by decide +kernel
theorem dX3_hatsOfAll_4 : decode cX3_hatsOfAll 4 = .ok (.iload_n 3, 1) := by decide +kernel
theorem dX3_hatsOfAll_5 : decode cX3_hatsOfAll 5 = .ok (.aload_n 0, 1) := by decide +kernel
theorem dX3_hatsOfAll_6 : decode cX3_hatsOfAll 6 = .ok (.getfield 30, 3) := by decide +kernel
theorem dX3_hatsOfAll_9 : decode cX3_hatsOfAll 9 = .ok (.if_icmp .ge 30, 3) := by decide +kernel
theorem dX3_hatsOfAll_12 : decode cX3_hatsOfAll 12 = .ok (.iload_n 1, 1) := by decide +kernel
theorem dX3_hatsOfAll_13 : decode cX3_hatsOfAll 13 = .ok (.iload_n 3, 1) := by decide +kernel
theorem dX3_hatsOfAll_14 : decode cX3_hatsOfAll 14 = .ok (.ishr, 1) := by decide +kernel
theorem dX3_hatsOfAll_15 : decode cX3_hatsOfAll 15 = .ok (.iconst 1, 1) := by decide +kernel
theorem dX3_hatsOfAll_16 : decode cX3_hatsOfAll 16 = .ok (.iand, 1) := by decide +kernel
theorem dX3_hatsOfAll_17 : decode cX3_hatsOfAll 17 = .ok (.iconst 1, 1) := by decide +kernel
theorem dX3_hatsOfAll_18 : decode cX3_hatsOfAll 18 = .ok (.if_icmp .ne 15, 3) := by decide +kernel
theorem dX3_hatsOfAll_21 : decode cX3_hatsOfAll 21 = .ok (.iload_n 2, 1) := by decide +kernel
theorem dX3_hatsOfAll_22 : decode cX3_hatsOfAll 22 = .ok (.aload_n 0, 1) := by decide +kernel
theorem dX3_hatsOfAll_23 : decode cX3_hatsOfAll 23 = .ok (.getfield 11, 3) := by decide +kernel
theorem dX3_hatsOfAll_26 : decode cX3_hatsOfAll 26 = .ok (.iload_n 3, 1) := by decide +kernel
theorem dX3_hatsOfAll_27 : decode cX3_hatsOfAll 27 = .ok (.aaload, 1) := by decide +kernel
theorem dX3_hatsOfAll_28 : decode cX3_hatsOfAll 28 = .ok (.getfield 97, 3) := by decide +kernel
theorem dX3_hatsOfAll_31 : decode cX3_hatsOfAll 31 = .ok (.iadd, 1) := by decide +kernel
theorem dX3_hatsOfAll_32 : decode cX3_hatsOfAll 32 = .ok (.istore_n 2, 1) := by decide +kernel
theorem dX3_hatsOfAll_33 : decode cX3_hatsOfAll 33 = .ok (.iinc 3 1, 3) := by decide +kernel
theorem dX3_hatsOfAll_36 : decode cX3_hatsOfAll 36 = .ok (.goto (-32), 3) := by decide +kernel
theorem dX3_hatsOfAll_39 : decode cX3_hatsOfAll 39 = .ok (.iload_n 2, 1) := by decide +kernel
theorem dX3_hatsOfAll_40 : decode cX3_hatsOfAll 40 = .ok (.ireturn, 1) := by decide +kernel
theorem dX3_wishesOfAll_0 : decode cX3_wishesOfAll 0 = .ok (.iconst 0, 1) := by decide +kernel
theorem dX3_wishesOfAll_1 : decode cX3_wishesOfAll 1 = .ok (.istore_n 2, 1) := by decide +kernel
theorem dX3_wishesOfAll_2 : decode cX3_wishesOfAll 2 = .ok (.iconst 0, 1) := by decide +kernel
theorem dX3_wishesOfAll_3 : decode cX3_wishesOfAll 3 = .ok (.istore_n 3, 1) := by decide +kernel
theorem dX3_wishesOfAll_4 : decode cX3_wishesOfAll 4 = .ok (.iload_n 3, 1) := by decide +kernel
theorem dX3_wishesOfAll_5 : decode cX3_wishesOfAll 5 = .ok (.aload_n 0, 1) := by decide +kernel
theorem dX3_wishesOfAll_6 : decode cX3_wishesOfAll 6 = .ok (.getfield 30, 3) := by decide +kernel
theorem dX3_wishesOfAll_9 : decode cX3_wishesOfAll 9 = .ok (.if_icmp .ge 30, 3) := by decide +kernel
theorem dX3_wishesOfAll_12 : decode cX3_wishesOfAll 12 = .ok (.iload_n 1, 1) := by decide +kernel
theorem dX3_wishesOfAll_13 : decode cX3_wishesOfAll 13 = .ok (.iload_n 3, 1) := by decide +kernel
theorem dX3_wishesOfAll_14 : decode cX3_wishesOfAll 14 = .ok (.ishr, 1) := by decide +kernel
theorem dX3_wishesOfAll_15 : decode cX3_wishesOfAll 15 = .ok (.iconst 1, 1) := by decide +kernel
theorem dX3_wishesOfAll_16 : decode cX3_wishesOfAll 16 = .ok (.iand, 1) := by decide +kernel
theorem dX3_wishesOfAll_17 : decode cX3_wishesOfAll 17 = .ok (.iconst 1, 1) := by decide +kernel
theorem dX3_wishesOfAll_18 : decode cX3_wishesOfAll 18 = .ok (.if_icmp .ne 15, 3) := by decide +kernel
theorem dX3_wishesOfAll_21 : decode cX3_wishesOfAll 21 = .ok (.iload_n 2, 1) := by decide +kernel
theorem dX3_wishesOfAll_22 : decode cX3_wishesOfAll 22 = .ok (.aload_n 0, 1) := by decide +kernel
theorem dX3_wishesOfAll_23 : decode cX3_wishesOfAll 23 = .ok (.getfield 11, 3) := by decide +kernel
theorem dX3_wishesOfAll_26 : decode cX3_wishesOfAll 26 = .ok (.iload_n 3, 1) := by decide +kernel
theorem dX3_wishesOfAll_27 : decode cX3_wishesOfAll 27 = .ok (.aaload, 1) := by decide +kernel
theorem dX3_wishesOfAll_28 : decode cX3_wishesOfAll 28 = .ok (.getfield 103, 3) := by decide +kernel
theorem dX3_wishesOfAll_31 : decode cX3_wishesOfAll 31 = .ok (.iadd, 1) := by decide +kernel
theorem dX3_wishesOfAll_32 : decode cX3_wishesOfAll 32 = .ok (.istore_n 2, 1) := by decide +kernel
theorem dX3_wishesOfAll_33 : decode cX3_wishesOfAll 33 = .ok (.iinc 3 1, 3) := by decide +kernel
theorem dX3_wishesOfAll_36 : decode cX3_wishesOfAll 36 = .ok (.goto (-32), 3) := by decide +kernel
theorem dX3_wishesOfAll_39 : decode cX3_wishesOfAll 39 = .ok (.iload_n 2, 1) := by decide +kernel
theorem dX3_wishesOfAll_40 : decode cX3_wishesOfAll 40 = .ok (.ireturn, 1) := by decide +kernel
theorem dX3_isOnBankOf_0 : decode cX3_isOnBankOf 0 = .ok (.iload_n 1, 1) := by decide +kernel
theorem dX3_isOnBankOf_1 : decode cX3_isOnBankOf 1 = .ok (.iload_n 3, 1) := by decide +kernel
theorem dX3_isOnBankOf_2 : decode cX3_isOnBankOf 2 = .ok (.invokestatic 151, 3) := by decide +kernel
theorem dX3_isOnBankOf_5 : decode cX3_isOnBankOf 5 = .ok (.iload_n 2, 1) := by decide +kernel
theorem dX3_isOnBankOf_6 : decode cX3_isOnBankOf 6 = .ok (.iload_n 3, 1) := by decide +kernel
theorem dX3_isOnBankOf_7 : decode cX3_isOnBankOf 7 = .ok (.invokestatic 155, 3) := by decide +kernel
theorem dX3_isOnBankOf_10 : decode cX3_isOnBankOf 10 = .ok (.ireturn, 1) := by decide +kernel
theorem dX3_mayGoAboard_0 : decode cX3_mayGoAboard 0 = .ok (.iload_n 2, 1) := by decide +kernel
theorem dX3_mayGoAboard_1 : decode cX3_mayGoAboard 1 = .ok (.invokestatic 159, 3) := by decide +kernel
theorem dX3_mayGoAboard_4 : decode cX3_mayGoAboard 4 = .ok (.aload_n 0, 1) := by decide +kernel
theorem dX3_mayGoAboard_5 : decode cX3_mayGoAboard 5 = .ok (.getfield 19, 3) := by decide +kernel
theorem dX3_mayGoAboard_8 : decode cX3_mayGoAboard 8 = .ok (.iload_n 1, 1) := by decide +kernel
theorem dX3_mayGoAboard_9 : decode cX3_mayGoAboard 9 = .ok (.aaload, 1) := by decide +kernel
theorem dX3_mayGoAboard_10 : decode cX3_mayGoAboard 10 = .ok (.getfield 165, 3) := by decide +kernel
theorem dX3_mayGoAboard_13 : decode cX3_mayGoAboard 13 = .ok (.if_icmp .gt 16, 3) := by decide +kernel
theorem dX3_mayGoAboard_16 : decode cX3_mayGoAboard 16 = .ok (.iload_n 2, 1) := by decide +kernel
theorem dX3_mayGoAboard_17 : decode cX3_mayGoAboard 17 = .ok (.aload_n 0, 1) := by decide +kernel
theorem dX3_mayGoAboard_18 : decode cX3_mayGoAboard 18 = .ok (.getfield 37, 3) := by decide +kernel
theorem dX3_mayGoAboard_21 : decode cX3_mayGoAboard 21 = .ok (.iand, 1) := by decide +kernel
theorem dX3_mayGoAboard_22 : decode cX3_mayGoAboard 22 = .ok (.ifCond .eq 7, 3) := by decide +kernel
theorem dX3_mayGoAboard_25 : decode cX3_mayGoAboard 25 = .ok (.iconst 1, 1) := by decide +kernel
theorem dX3_mayGoAboard_26 : decode cX3_mayGoAboard 26 = .ok (.goto 4, 3) := by decide +kernel
theorem dX3_mayGoAboard_29 : decode cX3_mayGoAboard 29 = .ok (.iconst 0, 1) := by decide +kernel
theorem dX3_mayGoAboard_30 : decode cX3_mayGoAboard 30 = .ok (.ireturn, 1) := by decide +kernel
theorem dX3_missBy_0 : decode cX3_missBy 0 = .ok (.iload_n 2, 1) := by decide +kernel
theorem dX3_missBy_1 : decode cX3_missBy 1 = .ok (.aload_n 0, 1) := by decide +kernel
theorem dX3_missBy_2 : decode cX3_missBy 2 = .ok (.getfield 19, 3) := by decide +kernel
theorem dX3_missBy_5 : decode cX3_missBy 5 = .ok (.iload_n 1, 1) := by decide +kernel
theorem dX3_missBy_6 : decode cX3_missBy 6 = .ok (.aaload, 1) := by decide +kernel
theorem dX3_missBy_7 : decode cX3_missBy 7 = .ok (.aload_n 0, 1) := by decide +kernel
theorem dX3_missBy_8 : decode cX3_missBy 8 = .ok (.getfield 26, 3) := by decide +kernel
theorem dX3_missBy_11 : decode cX3_missBy 11 = .ok (.getfield 129, 3) := by decide +kernel
theorem dX3_missBy_14 : decode cX3_missBy 14 = .ok (.invokevirtual 168, 3) := by decide +kernel
theorem dX3_missBy_17 : decode cX3_missBy 17 = .ok (.isub, 1) := by decide +kernel
theorem dX3_missBy_18 : decode cX3_missBy 18 = .ok (.invokestatic 172, 3) := by decide +kernel
theorem dX3_missBy_21 : decode cX3_missBy 21 = .ok (.ireturn, 1) := by decide +kernel
theorem dX3_isNumber_0 : decode cX3_isNumber 0 = .ok (.aload_n 0, 1) := by decide +kernel
theorem dX3_isNumber_1 : decode cX3_isNumber 1 = .ok (.iload_n 1, 1) := by decide +kernel
theorem dX3_isNumber_2 : decode cX3_isNumber 2 = .ok (.iload_n 2, 1) := by decide +kernel
theorem dX3_isNumber_3 : decode cX3_isNumber 3 = .ok (.invokevirtual 177, 3) := by decide +kernel
theorem dX3_isNumber_6 : decode cX3_isNumber 6 = .ok (.aload_n 0, 1) := by decide +kernel
theorem dX3_isNumber_7 : decode cX3_isNumber 7 = .ok (.getfield 19, 3) := by decide +kernel
theorem dX3_isNumber_10 : decode cX3_isNumber 10 = .ok (.iload_n 1, 1) := by decide +kernel
theorem dX3_isNumber_11 : decode cX3_isNumber 11 = .ok (.aaload, 1) := by decide +kernel
theorem dX3_isNumber_12 : decode cX3_isNumber 12 = .ok (.invokevirtual 180, 3) := by decide +kernel
theorem dX3_isNumber_15 : decode cX3_isNumber 15 = .ok (.if_icmp .gt 7, 3) := by decide +kernel
theorem dX3_isNumber_18 : decode cX3_isNumber 18 = .ok (.iconst 1, 1) := by decide +kernel
theorem dX3_isNumber_19 : decode cX3_isNumber 19 = .ok (.goto 4, 3) := by decide +kernel
theorem dX3_isNumber_22 : decode cX3_isNumber 22 = .ok (.iconst 0, 1) := by decide +kernel
theorem dX3_isNumber_23 : decode cX3_isNumber 23 = .ok (.ireturn, 1) := by decide +kernel
theorem dX3_isRightSomewhere_0 : decode cX3_isRightSomewhere 0 = .ok (.aload_n 0, 1) := by decide +kernel
theorem dX3_isRightSomewhere_1 : decode cX3_isRightSomewhere 1 = .ok (.iload_n 1, 1) := by decide +kernel
theorem dX3_isRightSomewhere_2 : decode cX3_isRightSomewhere 2 = .ok (.iload_n 2, 1) := by decide +kernel
theorem dX3_isRightSomewhere_3 : decode cX3_isRightSomewhere 3 = .ok (.invokevirtual 184, 3) := by decide +kernel
theorem dX3_isRightSomewhere_6 : decode cX3_isRightSomewhere 6 = .ok (.ifCond .eq 20, 3) := by decide +kernel
theorem dX3_isRightSomewhere_9 : decode cX3_isRightSomewhere 9 = .ok (.aload_n 0, 1) := by decide +kernel
theorem dX3_isRightSomewhere_10 : decode cX3_isRightSomewhere 10 = .ok (.iload_n 1, 1) := by decide +kernel
theorem dX3_isRightSomewhere_11 : decode cX3_isRightSomewhere 11 = .ok (.aload_n 0, 1) := by decide +kernel
theorem dX3_isRightSomewhere_12 : decode cX3_isRightSomewhere 12 = .ok (.iload_n 2, 1) := by decide +kernel
theorem dX3_isRightSomewhere_13 : decode cX3_isRightSomewhere 13 = .ok (.invokevirtual 188, 3) := by decide +kernel
theorem dX3_isRightSomewhere_16 : decode cX3_isRightSomewhere 16 = .ok (.invokevirtual 191, 3) := by decide +kernel
theorem dX3_isRightSomewhere_19 : decode cX3_isRightSomewhere 19 = .ok (.ifCond .eq 7, 3) := by decide +kernel
theorem dX3_isRightSomewhere_22 : decode cX3_isRightSomewhere 22 = .ok (.iconst 1, 1) := by decide +kernel
theorem dX3_isRightSomewhere_23 : decode cX3_isRightSomewhere 23 = .ok (.goto 4, 3) := by decide +kernel
theorem dX3_isRightSomewhere_26 : decode cX3_isRightSomewhere 26 = .ok (.iconst 0, 1) := by decide +kernel
theorem dX3_isRightSomewhere_27 : decode cX3_isRightSomewhere 27 = .ok (.ireturn, 1) := by decide +kernel
theorem dX3_isRight_0 : decode cX3_isRight 0 = .ok (.aload_n 0, 1) := by decide +kernel
theorem dX3_isRight_1 : decode cX3_isRight 1 = .ok (.iload_n 1, 1) := by decide +kernel
theorem dX3_isRight_2 : decode cX3_isRight 2 = .ok (.iload_n 2, 1) := by decide +kernel
theorem dX3_isRight_3 : decode cX3_isRight 3 = .ok (.iload_n 3, 1) := by decide +kernel
theorem dX3_isRight_4 : decode cX3_isRight 4 = .ok (.invokevirtual 194, 3) := by decide +kernel
theorem dX3_isRight_7 : decode cX3_isRight 7 = .ok (.ifCond .eq 16, 3) := by decide +kernel
theorem dX3_isRight_10 : decode cX3_isRight 10 = .ok (.aload_n 0, 1) := by decide +kernel
theorem dX3_isRight_11 : decode cX3_isRight 11 = .ok (.iload_n 1, 1) := by decide +kernel
theorem dX3_isRight_12 : decode cX3_isRight 12 = .ok (.iload_n 2, 1) := by decide +kernel
theorem dX3_isRight_13 : decode cX3_isRight 13 = .ok (.invokevirtual 197, 3) := by decide +kernel
theorem dX3_isRight_16 : decode cX3_isRight 16 = .ok (.ifCond .eq 7, 3) := by decide +kernel
theorem dX3_isRight_19 : decode cX3_isRight 19 = .ok (.iconst 1, 1) := by decide +kernel
theorem dX3_isRight_20 : decode cX3_isRight 20 = .ok (.goto 4, 3) := by decide +kernel
theorem dX3_isRight_23 : decode cX3_isRight 23 = .ok (.iconst 0, 1) := by decide +kernel
theorem dX3_isRight_24 : decode cX3_isRight 24 = .ok (.ireturn, 1) := by decide +kernel
theorem dX3_isSure_0 : decode cX3_isSure 0 = .ok (.iload_n 2, 1) := by decide +kernel
theorem dX3_isSure_1 : decode cX3_isSure 1 = .ok (.aload_n 0, 1) := by decide +kernel
theorem dX3_isSure_2 : decode cX3_isSure 2 = .ok (.getfield 43, 3) := by decide +kernel
theorem dX3_isSure_5 : decode cX3_isSure 5 = .ok (.iand, 1) := by decide +kernel
theorem dX3_isSure_6 : decode cX3_isSure 6 = .ok (.invokestatic 159, 3) := by decide +kernel
theorem dX3_isSure_9 : decode cX3_isSure 9 = .ok (.istore_n 3, 1) := by decide +kernel
theorem dX3_isSure_10 : decode cX3_isSure 10 = .ok (.aload_n 0, 1) := by decide +kernel
theorem dX3_isSure_11 : decode cX3_isSure 11 = .ok (.iload_n 1, 1) := by decide +kernel
theorem dX3_isSure_12 : decode cX3_isSure 12 = .ok (.aload_n 0, 1) := by decide +kernel
theorem dX3_isSure_13 : decode cX3_isSure 13 = .ok (.iload_n 2, 1) := by decide +kernel
theorem dX3_isSure_14 : decode cX3_isSure 14 = .ok (.invokevirtual 188, 3) := by decide +kernel
theorem dX3_isSure_17 : decode cX3_isSure 17 = .ok (.invokevirtual 177, 3) := by decide +kernel
theorem dX3_isSure_20 : decode cX3_isSure 20 = .ok (.iload_n 3, 1) := by decide +kernel
theorem dX3_isSure_21 : decode cX3_isSure 21 = .ok (.iadd, 1) := by decide +kernel
theorem dX3_isSure_22 : decode cX3_isSure 22 = .ok (.aload_n 0, 1) := by decide +kernel
theorem dX3_isSure_23 : decode cX3_isSure 23 = .ok (.getfield 19, 3) := by decide +kernel
theorem dX3_isSure_26 : decode cX3_isSure 26 = .ok (.iload_n 1, 1) := by decide +kernel
theorem dX3_isSure_27 : decode cX3_isSure 27 = .ok (.aaload, 1) := by decide +kernel
theorem dX3_isSure_28 : decode cX3_isSure 28 = .ok (.invokevirtual 180, 3) := by decide +kernel
theorem dX3_isSure_31 : decode cX3_isSure 31 = .ok (.if_icmp .gt 7, 3) := by decide +kernel
theorem dX3_isSure_34 : decode cX3_isSure 34 = .ok (.iconst 1, 1) := by decide +kernel
theorem dX3_isSure_35 : decode cX3_isSure 35 = .ok (.goto 4, 3) := by decide +kernel
theorem dX3_isSure_38 : decode cX3_isSure 38 = .ok (.iconst 0, 1) := by decide +kernel
theorem dX3_isSure_39 : decode cX3_isSure 39 = .ok (.ireturn, 1) := by decide +kernel
theorem dX3_fewestHatsOff_0 : decode cX3_fewestHatsOff 0 = .ok (.aload_n 0, 1) := by decide +kernel
theorem dX3_fewestHatsOff_1 : decode cX3_fewestHatsOff 1 = .ok (.iload_n 1, 1) := by decide +kernel
theorem dX3_fewestHatsOff_2 : decode cX3_fewestHatsOff 2 = .ok (.iload_n 2, 1) := by decide +kernel
theorem dX3_fewestHatsOff_3 : decode cX3_fewestHatsOff 3 = .ok (.aload_n 0, 1) := by decide +kernel
theorem dX3_fewestHatsOff_4 : decode cX3_fewestHatsOff 4 = .ok (.getfield 26, 3) := by decide +kernel
theorem dX3_fewestHatsOff_7 : decode cX3_fewestHatsOff 7 = .ok (.getfield 112, 3) := by decide +kernel
theorem dX3_fewestHatsOff_10 : decode cX3_fewestHatsOff 10 = .ok (.invokevirtual 194, 3) := by decide +kernel
theorem dX3_fewestHatsOff_13 : decode cX3_fewestHatsOff 13 = .ok (.ifCond .eq 12, 3) := by decide +kernel
theorem dX3_fewestHatsOff_16 : decode cX3_fewestHatsOff 16 = .ok (.aload_n 0, 1) := by decide +kernel
theorem dX3_fewestHatsOff_17 : decode cX3_fewestHatsOff 17 = .ok (.iload_n 1, 1) := by decide +kernel
theorem dX3_fewestHatsOff_18 : decode cX3_fewestHatsOff 18 = .ok (.iload_n 2, 1) := by decide +kernel
theorem dX3_fewestHatsOff_19 : decode cX3_fewestHatsOff 19 = .ok (.invokevirtual 184, 3) := by decide +kernel
theorem dX3_fewestHatsOff_22 : decode cX3_fewestHatsOff 22 = .ok (.ifCond .ne 5, 3) := by decide +kernel
theorem dX3_fewestHatsOff_25 : decode cX3_fewestHatsOff 25 = .ok (.iconst (-1), 1) := by decide +kernel
theorem dX3_fewestHatsOff_26 : decode cX3_fewestHatsOff 26 = .ok (.ireturn, 1) := by decide +kernel
theorem dX3_fewestHatsOff_27 : decode cX3_fewestHatsOff 27 = .ok (.aload_n 0, 1) := by decide +kernel
theorem dX3_fewestHatsOff_28 : decode cX3_fewestHatsOff 28 = .ok (.iload_n 2, 1) := by decide +kernel
theorem dX3_fewestHatsOff_29 : decode cX3_fewestHatsOff 29 = .ok (.invokevirtual 188, 3) := by decide +kernel
theorem dX3_fewestHatsOff_32 : decode cX3_fewestHatsOff 32 = .ok (.aload_n 0, 1) := by decide +kernel
theorem dX3_fewestHatsOff_33 : decode cX3_fewestHatsOff 33 = .ok (.iload_n 2, 1) := by decide +kernel
theorem dX3_fewestHatsOff_34 : decode cX3_fewestHatsOff 34 = .ok (.aload_n 0, 1) := by decide +kernel
theorem dX3_fewestHatsOff_35 : decode cX3_fewestHatsOff 35 = .ok (.getfield 26, 3) := by decide +kernel
theorem dX3_fewestHatsOff_38 : decode cX3_fewestHatsOff 38 = .ok (.getfield 126, 3) := by decide +kernel
theorem dX3_fewestHatsOff_41 : decode cX3_fewestHatsOff 41 = .ok (.iand, 1) := by decide +kernel
theorem dX3_fewestHatsOff_42 : decode cX3_fewestHatsOff 42 = .ok (.invokevirtual 200, 3) := by decide +kernel
theorem dX3_fewestHatsOff_45 : decode cX3_fewestHatsOff 45 = .ok (.iadd, 1) := by decide +kernel
theorem dX3_fewestHatsOff_46 : decode cX3_fewestHatsOff 46 = .ok (.istore_n 3, 1) := by decide +kernel
theorem dX3_fewestHatsOff_47 : decode cX3_fewestHatsOff 47 = .ok (.iconst (-1), 1) := by decide +kernel
theorem dX3_fewestHatsOff_48 : decode cX3_fewestHatsOff 48 = .ok (.istore 4, 2) := by decide +kernel
theorem dX3_fewestHatsOff_50 : decode cX3_fewestHatsOff 50 = .ok (.iconst 0, 1) := by decide +kernel
theorem dX3_fewestHatsOff_51 : decode cX3_fewestHatsOff 51 = .ok (.istore 5, 2) := by decide +kernel
theorem dX3_fewestHatsOff_53 : decode cX3_fewestHatsOff 53 = .ok (.iload 5, 2) := by decide +kernel
theorem dX3_fewestHatsOff_55 : decode cX3_fewestHatsOff 55 = .ok (.iconst 1, 1) := by decide +kernel
theorem dX3_fewestHatsOff_56 : decode cX3_fewestHatsOff 56 = .ok (.aload_n 0, 1) := by decide +kernel
theorem dX3_fewestHatsOff_57 : decode cX3_fewestHatsOff 57 = .ok (.getfield 30, 3) := by decide +kernel
theorem dX3_fewestHatsOff_60 : decode cX3_fewestHatsOff 60 = .ok (.ishl, 1) := by decide +kernel
theorem dX3_fewestHatsOff_61 : decode cX3_fewestHatsOff 61 = .ok (.if_icmp .ge 57, 3) := by decide +kernel
theorem dX3_fewestHatsOff_64 : decode cX3_fewestHatsOff 64 = .ok (.iload 5, 2) := by decide +kernel
theorem dX3_fewestHatsOff_66 : decode cX3_fewestHatsOff 66 = .ok (.iload_n 2, 1) := by decide +kernel
theorem dX3_fewestHatsOff_67 : decode cX3_fewestHatsOff 67 = .ok (.iconst (-1), 1) := by decide +kernel
theorem dX3_fewestHatsOff_68 : decode cX3_fewestHatsOff 68 = .ok (.ixor, 1) := by decide +kernel
theorem dX3_fewestHatsOff_69 : decode cX3_fewestHatsOff 69 = .ok (.iand, 1) := by decide +kernel
theorem dX3_fewestHatsOff_70 : decode cX3_fewestHatsOff 70 = .ok (.ifCond .ne 42, 3) := by decide +kernel
theorem dX3_fewestHatsOff_73 : decode cX3_fewestHatsOff 73 = .ok (.aload_n 0, 1) := by decide +kernel
theorem dX3_fewestHatsOff_74 : decode cX3_fewestHatsOff 74 = .ok (.iload_n 1, 1) := by decide +kernel
theorem dX3_fewestHatsOff_75 : decode cX3_fewestHatsOff 75 = .ok (.iload_n 3, 1) := by decide +kernel
theorem dX3_fewestHatsOff_76 : decode cX3_fewestHatsOff 76 = .ok (.aload_n 0, 1) := by decide +kernel
theorem dX3_fewestHatsOff_77 : decode cX3_fewestHatsOff 77 = .ok (.iload 5, 2) := by decide +kernel
theorem dX3_fewestHatsOff_79 : decode cX3_fewestHatsOff 79 = .ok (.invokevirtual 200, 3) := by decide +kernel
theorem dX3_fewestHatsOff_82 : decode cX3_fewestHatsOff 82 = .ok (.isub, 1) := by decide +kernel
theorem dX3_fewestHatsOff_83 : decode cX3_fewestHatsOff 83 = .ok (.invokevirtual 191, 3) := by decide +kernel
theorem dX3_fewestHatsOff_86 : decode cX3_fewestHatsOff 86 = .ok (.ifCond .eq 26, 3) := by decide +kernel
theorem dX3_fewestHatsOff_89 : decode cX3_fewestHatsOff 89 = .ok (.iload 4, 2) := by decide +kernel
theorem dX3_fewestHatsOff_91 : decode cX3_fewestHatsOff 91 = .ok (.iconst (-1), 1) := by decide +kernel
theorem dX3_fewestHatsOff_92 : decode cX3_fewestHatsOff 92 = .ok (.if_icmp .eq 16, 3) := by decide +kernel
theorem dX3_fewestHatsOff_95 : decode cX3_fewestHatsOff 95 = .ok (.iload 5, 2) := by decide +kernel
theorem dX3_fewestHatsOff_97 : decode cX3_fewestHatsOff 97 = .ok (.invokestatic 159, 3) := by decide +kernel
theorem dX3_fewestHatsOff_100 : decode cX3_fewestHatsOff 100 = .ok (.iload 4, 2) := by decide +kernel
theorem dX3_fewestHatsOff_102 : decode cX3_fewestHatsOff 102 = .ok (.invokestatic 159, 3) := by decide +kernel
theorem dX3_fewestHatsOff_105 : decode cX3_fewestHatsOff 105 = .ok (.if_icmp .ge 7, 3) := by decide +kernel
theorem dX3_fewestHatsOff_108 : decode cX3_fewestHatsOff 108 = .ok (.iload 5, 2) := by decide +kernel
theorem dX3_fewestHatsOff_110 : decode cX3_fewestHatsOff 110 = .ok (.istore 4, 2) := by decide +kernel
theorem dX3_fewestHatsOff_112 : decode cX3_fewestHatsOff 112 = .ok (.iinc 5 1, 3) := by decide +kernel
theorem dX3_fewestHatsOff_115 : decode cX3_fewestHatsOff 115 = .ok (.goto (-62), 3) := by decide +kernel
theorem dX3_fewestHatsOff_118 : decode cX3_fewestHatsOff 118 = .ok (.iload 4, 2) := by decide +kernel
theorem dX3_fewestHatsOff_120 : decode cX3_fewestHatsOff 120 = .ok (.ireturn, 1) := by decide +kernel
theorem dX3_fewestStones_0 : decode cX3_fewestStones 0 = .ok (.aload_n 0, 1) := by decide +kernel
theorem dX3_fewestStones_1 : decode cX3_fewestStones 1 = .ok (.iload_n 1, 1) := by decide +kernel
theorem dX3_fewestStones_2 : decode cX3_fewestStones 2 = .ok (.iload_n 2, 1) := by decide +kernel
theorem dX3_fewestStones_3 : decode cX3_fewestStones 3 = .ok (.aload_n 0, 1) := by decide +kernel
theorem dX3_fewestStones_4 : decode cX3_fewestStones 4 = .ok (.getfield 26, 3) := by decide +kernel
theorem dX3_fewestStones_7 : decode cX3_fewestStones 7 = .ok (.getfield 112, 3) := by decide +kernel
theorem dX3_fewestStones_10 : decode cX3_fewestStones 10 = .ok (.invokevirtual 194, 3) := by decide +kernel
theorem dX3_fewestStones_13 : decode cX3_fewestStones 13 = .ok (.ifCond .eq 12, 3) := by decide +kernel
theorem dX3_fewestStones_16 : decode cX3_fewestStones 16 = .ok (.aload_n 0, 1) := by decide +kernel
theorem dX3_fewestStones_17 : decode cX3_fewestStones 17 = .ok (.iload_n 1, 1) := by decide +kernel
theorem dX3_fewestStones_18 : decode cX3_fewestStones 18 = .ok (.iload_n 2, 1) := by decide +kernel
theorem dX3_fewestStones_19 : decode cX3_fewestStones 19 = .ok (.invokevirtual 184, 3) := by decide +kernel
theorem dX3_fewestStones_22 : decode cX3_fewestStones 22 = .ok (.ifCond .ne 5, 3) := by decide +kernel
theorem dX3_fewestStones_25 : decode cX3_fewestStones 25 = .ok (.iconst (-1), 1) := by decide +kernel
theorem dX3_fewestStones_26 : decode cX3_fewestStones 26 = .ok (.ireturn, 1) := by decide +kernel
theorem dX3_fewestStones_27 : decode cX3_fewestStones 27 = .ok (.aload_n 0, 1) := by decide +kernel
theorem dX3_fewestStones_28 : decode cX3_fewestStones 28 = .ok (.iload_n 2, 1) := by decide +kernel
theorem dX3_fewestStones_29 : decode cX3_fewestStones 29 = .ok (.invokevirtual 188, 3) := by decide +kernel
theorem dX3_fewestStones_32 : decode cX3_fewestStones 32 = .ok (.istore 4, 2) := by decide +kernel
theorem dX3_fewestStones_34 : decode cX3_fewestStones 34 = .ok (.aload_n 0, 1) := by decide +kernel
theorem dX3_fewestStones_35 : decode cX3_fewestStones 35 = .ok (.getfield 19, 3) := by decide +kernel
theorem dX3_fewestStones_38 : decode cX3_fewestStones 38 = .ok (.iload_n 1, 1) := by decide +kernel
theorem dX3_fewestStones_39 : decode cX3_fewestStones 39 = .ok (.aaload, 1) := by decide +kernel
theorem dX3_fewestStones_40 : decode cX3_fewestStones 40 = .ok (.getfield 165, 3) := by decide +kernel
theorem dX3_fewestStones_43 : decode cX3_fewestStones 43 = .ok (.iload_n 2, 1) := by decide +kernel
theorem dX3_fewestStones_44 : decode cX3_fewestStones 44 = .ok (.invokestatic 159, 3) := by decide +kernel
theorem dX3_fewestStones_47 : decode cX3_fewestStones 47 = .ok (.isub, 1) := by decide +kernel
theorem dX3_fewestStones_48 : decode cX3_fewestStones 48 = .ok (.istore 5, 2) := by decide +kernel
theorem dX3_fewestStones_50 : decode cX3_fewestStones 50 = .ok (.iconst 0, 1) := by decide +kernel
theorem dX3_fewestStones_51 : decode cX3_fewestStones 51 = .ok (.istore 6, 2) := by decide +kernel
theorem dX3_fewestStones_53 : decode cX3_fewestStones 53 = .ok (.iload 6, 2) := by decide +kernel
theorem dX3_fewestStones_55 : decode cX3_fewestStones 55 = .ok (.iload 5, 2) := by decide +kernel
theorem dX3_fewestStones_57 : decode cX3_fewestStones 57 = .ok (.if_icmp .gt 27, 3) := by decide +kernel
theorem dX3_fewestStones_60 : decode cX3_fewestStones 60 = .ok (.aload_n 0, 1) := by decide +kernel
theorem dX3_fewestStones_61 : decode cX3_fewestStones 61 = .ok (.iload_n 1, 1) := by decide +kernel
theorem dX3_fewestStones_62 : decode cX3_fewestStones 62 = .ok (.iload 4, 2) := by decide +kernel
theorem dX3_fewestStones_64 : decode cX3_fewestStones 64 = .ok (.iload 6, 2) := by decide +kernel
theorem dX3_fewestStones_66 : decode cX3_fewestStones 66 = .ok (.iload_n 3, 1) := by decide +kernel
theorem dX3_fewestStones_67 : decode cX3_fewestStones 67 = .ok (.imul, 1) := by decide +kernel
theorem dX3_fewestStones_68 : decode cX3_fewestStones 68 = .ok (.iadd, 1) := by decide +kernel
theorem dX3_fewestStones_69 : decode cX3_fewestStones 69 = .ok (.invokevirtual 191, 3) := by decide +kernel
theorem dX3_fewestStones_72 : decode cX3_fewestStones 72 = .ok (.ifCond .eq 6, 3) := by decide +kernel
theorem dX3_fewestStones_75 : decode cX3_fewestStones 75 = .ok (.iload 6, 2) := by decide +kernel
theorem dX3_fewestStones_77 : decode cX3_fewestStones 77 = .ok (.ireturn, 1) := by decide +kernel
theorem dX3_fewestStones_78 : decode cX3_fewestStones 78 = .ok (.iinc 6 1, 3) := by decide +kernel
theorem dX3_fewestStones_81 : decode cX3_fewestStones 81 = .ok (.goto (-28), 3) := by decide +kernel
theorem dX3_fewestStones_84 : decode cX3_fewestStones 84 = .ok (.iconst (-1), 1) := by decide +kernel
theorem dX3_fewestStones_85 : decode cX3_fewestStones 85 = .ok (.ireturn, 1) := by decide +kernel
theorem dX4_init_0 : decode cX4_init 0 = .ok (.aload_n 0, 1) := by decide +kernel
theorem dX4_init_1 : decode cX4_init 1 = .ok (.invokespecial 3, 3) := by decide +kernel
theorem dX4_init_4 : decode cX4_init 4 = .ok (.aload_n 0, 1) := by decide +kernel
theorem dX4_init_5 : decode cX4_init 5 = .ok (.sipush 768, 3) := by decide +kernel
theorem dX4_init_8 : decode cX4_init 8 = .ok (.newarray .int, 2) := by decide +kernel
theorem dX4_init_10 : decode cX4_init 10 = .ok (.putfield 9, 3) := by decide +kernel
theorem dX4_init_13 : decode cX4_init 13 = .ok (.aload_n 0, 1) := by decide +kernel
theorem dX4_init_14 : decode cX4_init 14 = .ok (.iconst 3, 1) := by decide +kernel
theorem dX4_init_15 : decode cX4_init 15 = .ok (.newarray .int, 2) := by decide +kernel
theorem dX4_init_17 : decode cX4_init 17 = .ok (.putfield 15, 3) := by decide +kernel
theorem dX4_init_20 : decode cX4_init 20 = .ok (.aload_n 0, 1) := by decide +kernel
theorem dX4_init_21 : decode cX4_init 21 = .ok (.sipush 2048, 3) := by decide +kernel
theorem dX4_init_24 : decode cX4_init 24 = .ok (.newarray .int, 2) := by decide +kernel
theorem dX4_init_26 : decode cX4_init 26 = .ok (.putfield 18, 3) := by decide +kernel
theorem dX4_init_29 : decode cX4_init 29 = .ok (.aload_n 0, 1) := by decide +kernel
theorem dX4_init_30 : decode cX4_init 30 = .ok (.sipush 2048, 3) := by decide +kernel
theorem dX4_init_33 : decode cX4_init 33 = .ok (.newarray .int, 2) := by decide +kernel
theorem dX4_init_35 : decode cX4_init 35 = .ok (.putfield 21, 3) := by decide +kernel
theorem dX4_init_38 : decode cX4_init 38 = .ok (.aload_n 0, 1) := by decide +kernel
theorem dX4_init_39 : decode cX4_init 39 = .ok (.sipush 6144, 3) := by decide +kernel
theorem dX4_init_42 : decode cX4_init 42 = .ok (.newarray .int, 2) := by decide +kernel
theorem dX4_init_44 : decode cX4_init 44 = .ok (.putfield 24, 3) := by decide +kernel
theorem dX4_init_47 : decode cX4_init 47 = .ok (.aload_n 0, 1) := by decide +kernel
theorem dX4_init_48 : decode cX4_init 48 = .ok (.iconst 3, 1) := by decide +kernel
theorem dX4_init_49 : decode cX4_init 49 = .ok (.newarray .int, 2) := by decide +kernel
theorem dX4_init_51 : decode cX4_init 51 = .ok (.putfield 27, 3) := by decide +kernel
theorem dX4_init_54 : decode cX4_init 54 = .ok (.aload_n 0, 1) := by decide +kernel
theorem dX4_init_55 : decode cX4_init 55 = .ok (.iconst 3, 1) := by decide +kernel
theorem dX4_init_56 : decode cX4_init 56 = .ok (.newarray .int, 2) := by decide +kernel
theorem dX4_init_58 : decode cX4_init 58 = .ok (.putfield 30, 3) := by decide +kernel
theorem dX4_init_61 : decode cX4_init 61 = .ok (.aload_n 0, 1) := by decide +kernel
theorem dX4_init_62 : decode cX4_init 62 = .ok (.aload_n 1, 1) := by decide +kernel
theorem dX4_init_63 : decode cX4_init 63 = .ok (.putfield 33, 3) := by decide +kernel
theorem dX4_init_66 : decode cX4_init 66 = .ok (.return_, 1) := by decide +kernel
theorem dX4_find_0 : decode cX4_find 0 = .ok (.aload_n 0, 1) := by decide +kernel
theorem dX4_find_1 : decode cX4_find 1 = .ok (.invokevirtual 37, 3) := by decide +kernel
theorem dX4_find_4 : decode cX4_find 4 = .ok (.iconst 0, 1) := by decide +kernel
theorem dX4_find_5 : decode cX4_find 5 = .ok (.istore 4, 2) := by decide +kernel
theorem dX4_find_7 : decode cX4_find 7 = .ok (.iload 4, 2) := by decide +kernel
theorem dX4_find_9 : decode cX4_find 9 = .ok (.aload_n 0, 1) := by decide +kernel
theorem dX4_find_10 : decode cX4_find 10 = .ok (.getfield 33, 3) := by decide +kernel
theorem dX4_find_13 : decode cX4_find 13 = .ok (.getfield 40, 3) := by decide +kernel
theorem dX4_find_16 : decode cX4_find 16 = .ok (.if_icmp .ge 15, 3) := by decide +kernel
theorem dX4_find_19 : decode cX4_find 19 = .ok (.aload_n 0, 1) := by decide +kernel
theorem dX4_find_20 : decode cX4_find 20 = .ok (.iload 4, 2) := by decide +kernel
theorem dX4_find_22 : decode cX4_find 22 = .ok (.invokevirtual 46, 3) := by decide +kernel
theorem dX4_find_25 : decode cX4_find 25 = .ok (.iinc 4 1, 3) := by decide +kernel
theorem dX4_find_28 : decode cX4_find 28 = .ok (.goto (-21), 3) := by decide +kernel
theorem dX4_find_31 : decode cX4_find 31 = .ok (.aload_n 0, 1) := by decide +kernel
theorem dX4_find_32 : decode cX4_find 32 = .ok (.aload_n 0, 1) := by decide +kernel
theorem dX4_find_33 : decode cX4_find 33 = .ok (.getfield 33, 3) := by decide +kernel
theorem dX4_find_36 : decode cX4_find 36 = .ok (.getfield 50, 3) := by decide +kernel
theorem dX4_find_39 : decode cX4_find 39 = .ok (.getfield 54, 3) := by decide +kernel
theorem dX4_find_42 : decode cX4_find 42 = .ok (.iconst (-1), 1) := by decide +kernel
theorem dX4_find_43 : decode cX4_find 43 = .ok (.iconst 0, 1) := by decide +kernel
theorem dX4_find_44 : decode cX4_find 44 = .ok (.iconst 0, 1) := by decide +kernel
theorem dX4_find_45 : decode cX4_find 45 = .ok (.invokevirtual 59, 3) := by decide +kernel
theorem dX4_find_48 : decode cX4_find 48 = .ok (.iconst 0, 1) := by decide +kernel
theorem dX4_find_49 : decode cX4_find 49 = .ok (.istore 4, 2) := by decide +kernel
theorem dX4_find_51 : decode cX4_find 51 = .ok (.iload 4, 2) := by decide +kernel
theorem dX4_find_53 : decode cX4_find 53 = .ok (.aload_n 0, 1) := by decide +kernel
theorem dX4_find_54 : decode cX4_find 54 = .ok (.getfield 24, 3) := by decide +kernel
theorem dX4_find_57 : decode cX4_find 57 = .ok (.arraylength, 1) := by decide +kernel
theorem dX4_find_58 : decode cX4_find 58 = .ok (.if_icmp .ge 121, 3) := by decide +kernel
theorem dX4_find_61 : decode cX4_find 61 = .ok (.aload_n 0, 1) := by decide +kernel
theorem dX4_find_62 : decode cX4_find 62 = .ok (.invokevirtual 63, 3) := by decide +kernel
theorem dX4_find_65 : decode cX4_find 65 = .ok (.istore 5, 2) := by decide +kernel
theorem dX4_find_67 : decode cX4_find 67 = .ok (.iload 5, 2) := by decide +kernel
theorem dX4_find_69 : decode cX4_find 69 = .ok (.iconst (-1), 1) := by decide +kernel
theorem dX4_find_70 : decode cX4_find 70 = .ok (.if_icmp .ne 5, 3) := by decide +kernel
theorem dX4_find_73 : decode cX4_find 73 = .ok (.iconst (-1), 1) := by decide +kernel
theorem dX4_find_74 : decode cX4_find 74 = .ok (.ireturn, 1) := by decide +kernel
theorem dX4_find_75 : decode cX4_find 75 = .ok (.aload_n 0, 1) := by decide +kernel
theorem dX4_find_76 : decode cX4_find 76 = .ok (.getfield 24, 3) := by decide +kernel
theorem dX4_find_79 : decode cX4_find 79 = .ok (.aload_n 0, 1) := by decide +kernel
theorem dX4_find_80 : decode cX4_find 80 = .ok (.getfield 27, 3) := by decide +kernel
theorem dX4_find_83 : decode cX4_find 83 = .ok (.iload 5, 2) := by decide +kernel
theorem dX4_find_85 : decode cX4_find 85 = .ok (.iaload, 1) := by decide +kernel
theorem dX4_find_86 : decode cX4_find 86 = .ok (.iaload, 1) := by decide +kernel
theorem dX4_find_87 : decode cX4_find 87 = .ok (.istore 6, 2) := by decide +kernel
theorem dX4_find_89 : decode cX4_find 89 = .ok (.aload_n 0, 1) := by decide +kernel
theorem dX4_find_90 : decode cX4_find 90 = .ok (.getfield 27, 3) := by decide +kernel
theorem dX4_find_93 : decode cX4_find 93 = .ok (.iload 5, 2) := by decide +kernel
theorem dX4_find_95 : decode cX4_find 95 = .ok (.dup2, 1) := by decide +kernel
theorem dX4_find_96 : decode cX4_find 96 = .ok (.iaload, 1) := by decide +kernel
theorem dX4_find_97 : decode cX4_find 97 = .ok (.iconst 1, 1) := by decide +kernel
theorem dX4_find_98 : decode cX4_find 98 = .ok (.iadd, 1) := by decide +kernel
theorem dX4_find_99 : decode cX4_find 99 = .ok (.iastore, 1) := by decide +kernel
theorem dX4_find_100 : decode cX4_find 100 = .ok (.iload_n 2, 1) := by decide +kernel
theorem dX4_find_101 : decode cX4_find 101 = .ok (.iload_n 1, 1) := by decide +kernel
theorem dX4_find_102 : decode cX4_find 102 = .ok (.iload 6, 2) := by decide +kernel
theorem dX4_find_104 : decode cX4_find 104 = .ok (.invokestatic 67, 3) := by decide +kernel
theorem dX4_find_107 : decode cX4_find 107 = .ok (.ifCond .eq 6, 3) := by decide +kernel
theorem dX4_find_110 : decode cX4_find 110 = .ok (.iload 6, 2) := by decide +kernel
theorem dX4_find_112 : decode cX4_find 112 = .ok (.ireturn, 1) := by decide +kernel
theorem dX4_find_113 : decode cX4_find 113 = .ok (.iconst 0, 1) := by decide +kernel
theorem dX4_find_114 : decode cX4_find 114 = .ok (.istore 7, 2) := by decide +kernel
theorem dX4_find_116 : decode cX4_find 116 = .ok (.iload 7, 2) := by decide +kernel
theorem dX4_find_118 : decode cX4_find 118 = .ok (.aload_n 0, 1) := by decide +kernel
theorem dX4_find_119 : decode cX4_find 119 = .ok (.getfield 33, 3) := by decide +kernel
theorem dX4_find_122 : decode cX4_find 122 = .ok (.getfield 40, 3) := by decide +kernel
theorem dX4_find_125 : decode cX4_find 125 = .ok (.if_icmp .ge 48, 3) := by decide +kernel
theorem dX4_find_128 : decode cX4_find 128 = .ok (.aload_n 0, 1) := by decide +kernel
theorem dX4_find_129 : decode cX4_find 129 = .ok (.iload 6, 2) := by decide +kernel
theorem dX4_find_131 : decode cX4_find 131 = .ok (.iload 7, 2) := by decide +kernel
theorem dX4_find_133 : decode cX4_find 133 = .ok (.iload_n 3, 1) := by decide +kernel
theorem dX4_find_134 : decode cX4_find 134 = .ok (.ifCond .eq 8, 3) := by decide +kernel
theorem dX4_find_137 : decode cX4_find 137 = .ok (.iload 7, 2) := by decide +kernel
theorem dX4_find_139 : decode cX4_find 139 = .ok (.goto 4, 3) := by decide +kernel
theorem dX4_find_142 : decode cX4_find 142 = .ok (.iconst 0, 1) := by decide +kernel
theorem dX4_find_143 : decode cX4_find 143 = .ok (.iload_n 3, 1) := by decide +kernel
theorem dX4_find_144 : decode cX4_find 144 = .ok (.ifCond .eq 19, 3) := by decide +kernel
theorem dX4_find_147 : decode cX4_find 147 = .ok (.aload_n 0, 1) := by decide +kernel
theorem dX4_find_148 : decode cX4_find 148 = .ok (.getfield 33, 3) := by decide +kernel
theorem dX4_find_151 : decode cX4_find 151 = .ok (.getfield 71, 3) := by decide +kernel
theorem dX4_find_154 : decode cX4_find 154 = .ok (.iload 7, 2) := by decide +kernel
theorem dX4_find_156 : decode cX4_find 156 = .ok (.aaload, 1) := by decide +kernel
theorem dX4_find_157 : decode cX4_find 157 = .ok (.getfield 75, 3) := by decide +kernel
theorem dX4_find_160 : decode cX4_find 160 = .ok (.goto 4, 3) := by decide +kernel
theorem dX4_find_163 : decode cX4_find 163 = .ok (.iconst 1, 1) := by decide +kernel
theorem dX4_find_164 : decode cX4_find 164 = .ok (.invokevirtual 80, 3) := by decide +kernel
theorem dX4_find_167 : decode cX4_find 167 = .ok (.iinc 7 1, 3) := by decide +kernel
theorem dX4_find_170 : decode cX4_find 170 = .ok (.goto (-54), 3) := by decide +kernel
theorem dX4_find_173 : decode cX4_find 173 = .ok (.iinc 4 1, 3) := by decide +kernel
theorem dX4_find_176 : decode cX4_find 176 = .ok (.goto (-125), 3) := by decide +kernel
theorem dX4_find_179 : decode cX4_find 179 = .ok (.iconst (-1), 1) := by decide +kernel
theorem dX4_find_180 : decode cX4_find 180 = .ok (.ireturn, 1) := by decide +kernel
theorem dX4_costOf_0 : decode cX4_costOf 0 = .ok (.iload_n 1, 1) := by decide +kernel
theorem dX4_costOf_1 : decode cX4_costOf 1 = .ok (.iconst (-1), 1) := by decide +kernel
theorem dX4_costOf_2 : decode cX4_costOf 2 = .ok (.if_icmp .ne 7, 3) := by decide +kernel
theorem dX4_costOf_5 : decode cX4_costOf 5 = .ok (.iconst (-1), 1) := by decide +kernel
theorem dX4_costOf_6 : decode cX4_costOf 6 = .ok (.goto 9, 3) := by decide +kernel
theorem dX4_costOf_9 : decode cX4_costOf 9 = .ok (.aload_n 0, 1) := by decide +kernel
theorem dX4_costOf_10 : decode cX4_costOf 10 = .ok (.getfield 18, 3) := by decide +kernel
theorem dX4_costOf_13 : decode cX4_costOf 13 = .ok (.iload_n 1, 1) := by decide +kernel
theorem dX4_costOf_14 : decode cX4_costOf 14 = .ok (.iaload, 1) := by decide +kernel
theorem dX4_costOf_15 : decode cX4_costOf 15 = .ok (.ireturn, 1) := by decide +kernel
theorem dX4_crossingTo_0 : decode cX4_crossingTo 0 = .ok (.iload_n 1, 1) := by decide +kernel
theorem dX4_crossingTo_1 : decode cX4_crossingTo 1 = .ok (.iconst (-1), 1) := by decide +kernel
theorem dX4_crossingTo_2 : decode cX4_crossingTo 2 = .ok (.if_icmp .eq 13, 3) := by decide +kernel
theorem dX4_crossingTo_5 : decode cX4_crossingTo 5 = .ok (.iload_n 2, 1) := by decide +kernel
theorem dX4_crossingTo_6 : decode cX4_crossingTo 6 = .ok (.aload_n 0, 1) := by decide +kernel
theorem dX4_crossingTo_7 : decode cX4_crossingTo 7 = .ok (.getfield 18, 3) := by decide +kernel
theorem dX4_crossingTo_10 : decode cX4_crossingTo 10 = .ok (.iload_n 1, 1) := by decide +kernel
theorem dX4_crossingTo_11 : decode cX4_crossingTo 11 = .ok (.iaload, 1) := by decide +kernel
theorem dX4_crossingTo_12 : decode cX4_crossingTo 12 = .ok (.if_icmp .lt 5, 3) := by decide +kernel
theorem dX4_crossingTo_15 : decode cX4_crossingTo 15 = .ok (.iconst (-1), 1) := by decide +kernel
theorem dX4_crossingTo_16 : decode cX4_crossingTo 16 = .ok (.ireturn, 1) := by decide +kernel
theorem dX4_crossingTo_17 : decode cX4_crossingTo 17 = .ok (.iload_n 1, 1) := by decide +kernel
theorem dX4_crossingTo_18 : decode cX4_crossingTo 18 = .ok (.istore_n 3, 1) := by decide +kernel
theorem dX4_crossingTo_19 : decode cX4_crossingTo 19 = .ok (.aload_n 0, 1) := by decide +kernel
theorem dX4_crossingTo_20 : decode cX4_crossingTo 20 = .ok (.getfield 18, 3) := by decide +kernel
theorem dX4_crossingTo_23 : decode cX4_crossingTo 23 = .ok (.iload_n 1, 1) := by decide +kernel
theorem dX4_crossingTo_24 : decode cX4_crossingTo 24 = .ok (.iaload, 1) := by decide +kernel
theorem dX4_crossingTo_25 : decode cX4_crossingTo 25 = .ok (.iconst 1, 1) := by decide +kernel
theorem dX4_crossingTo_26 : decode cX4_crossingTo 26 = .ok (.isub, 1) := by decide +kernel
theorem dX4_crossingTo_27 : decode cX4_crossingTo 27 = .ok (.istore 4, 2) := by decide +kernel
theorem dX4_crossingTo_29 : decode cX4_crossingTo 29 = .ok (.iload 4, 2) := by decide +kernel
theorem dX4_crossingTo_31 : decode cX4_crossingTo 31 = .ok (.iload_n 2, 1) := by decide +kernel
theorem dX4_crossingTo_32 : decode cX4_crossingTo 32 = .ok (.if_icmp .le 30, 3) := by decide +kernel
theorem dX4_crossingTo_35 : decode cX4_crossingTo 35 = .ok (.aload_n 0, 1) := by decide +kernel
theorem dX4_crossingTo_36 : decode cX4_crossingTo 36 = .ok (.getfield 21, 3) := by decide +kernel
theorem dX4_crossingTo_39 : decode cX4_crossingTo 39 = .ok (.iload_n 3, 1) := by decide +kernel
theorem dX4_crossingTo_40 : decode cX4_crossingTo 40 = .ok (.iaload, 1) := by decide +kernel
theorem dX4_crossingTo_41 : decode cX4_crossingTo 41 = .ok (.iconst (-1), 1) := by decide +kernel
theorem dX4_crossingTo_42 : decode cX4_crossingTo 42 = .ok (.if_icmp .eq 20, 3) := by decide +kernel
theorem dX4_crossingTo_45 : decode cX4_crossingTo 45 = .ok (.iload_n 3, 1) := by decide +kernel
theorem dX4_crossingTo_46 : decode cX4_crossingTo 46 = .ok (.aload_n 0, 1) := by decide +kernel
theorem dX4_crossingTo_47 : decode cX4_crossingTo 47 = .ok (.getfield 21, 3) := by decide +kernel
theorem dX4_crossingTo_50 : decode cX4_crossingTo 50 = .ok (.iload_n 3, 1) := by decide +kernel
theorem dX4_crossingTo_51 : decode cX4_crossingTo 51 = .ok (.iaload, 1) := by decide +kernel
theorem dX4_crossingTo_52 : decode cX4_crossingTo 52 = .ok (.invokestatic 83, 3) := by decide +kernel
theorem dX4_crossingTo_55 : decode cX4_crossingTo 55 = .ok (.istore_n 3, 1) := by decide +kernel
theorem dX4_crossingTo_56 : decode cX4_crossingTo 56 = .ok (.iinc 4 (-1), 3) := by decide +kernel
theorem dX4_crossingTo_59 : decode cX4_crossingTo 59 = .ok (.goto (-30), 3) := by decide +kernel
theorem dX4_crossingTo_62 : decode cX4_crossingTo 62 = .ok (.aload_n 0, 1) := by decide +kernel
theorem dX4_crossingTo_63 : decode cX4_crossingTo 63 = .ok (.getfield 21, 3) := by decide +kernel
theorem dX4_crossingTo_66 : decode cX4_crossingTo 66 = .ok (.iload_n 3, 1) := by decide +kernel
theorem dX4_crossingTo_67 : decode cX4_crossingTo 67 = .ok (.iaload, 1) := by decide +kernel
theorem dX4_crossingTo_68 : decode cX4_crossingTo 68 = .ok (.ireturn, 1) := by decide +kernel
theorem dX4_clear_0 : decode cX4_clear 0 = .ok (.iconst 0, 1) := by decide +kernel
theorem dX4_clear_1 : decode cX4_clear 1 = .ok (.istore_n 1, 1) := by decide +kernel
theorem dX4_clear_2 : decode cX4_clear 2 = .ok (.iload_n 1, 1) := by decide +kernel
theorem dX4_clear_3 : decode cX4_clear 3 = .ok (.iconst 3, 1) := by decide +kernel
theorem dX4_clear_4 : decode cX4_clear 4 = .ok (.if_icmp .ge 38, 3) := by decide +kernel
theorem dX4_clear_7 : decode cX4_clear 7 = .ok (.aload_n 0, 1) := by decide +kernel
theorem dX4_clear_8 : decode cX4_clear 8 = .ok (.getfield 15, 3) := by decide +kernel
theorem dX4_clear_11 : decode cX4_clear 11 = .ok (.iload_n 1, 1) := by decide +kernel
theorem dX4_clear_12 : decode cX4_clear 12 = .ok (.iconst 0, 1) := by decide +kernel
theorem dX4_clear_13 : decode cX4_clear 13 = .ok (.iastore, 1) := by decide +kernel
theorem dX4_clear_14 : decode cX4_clear 14 = .ok (.aload_n 0, 1) := by decide +kernel
theorem dX4_clear_15 : decode cX4_clear 15 = .ok (.getfield 27, 3) := by decide +kernel
theorem dX4_clear_18 : decode cX4_clear 18 = .ok (.iload_n 1, 1) := by decide +kernel
theorem dX4_clear_19 : decode cX4_clear 19 = .ok (.iload_n 1, 1) := by decide +kernel
theorem dX4_clear_20 : decode cX4_clear 20 = .ok (.sipush 2048, 3) := by decide +kernel
theorem dX4_clear_23 : decode cX4_clear 23 = .ok (.imul, 1) := by decide +kernel
theorem dX4_clear_24 : decode cX4_clear 24 = .ok (.iastore, 1) := by decide +kernel
theorem dX4_clear_25 : decode cX4_clear 25 = .ok (.aload_n 0, 1) := by decide +kernel
theorem dX4_clear_26 : decode cX4_clear 26 = .ok (.getfield 30, 3) := by decide +kernel
theorem dX4_clear_29 : decode cX4_clear 29 = .ok (.iload_n 1, 1) := by decide +kernel
theorem dX4_clear_30 : decode cX4_clear 30 = .ok (.iload_n 1, 1) := by decide +kernel
theorem dX4_clear_31 : decode cX4_clear 31 = .ok (.sipush 2048, 3) := by decide +kernel
theorem dX4_clear_34 : decode cX4_clear 34 = .ok (.imul, 1) := by decide +kernel
theorem dX4_clear_35 : decode cX4_clear 35 = .ok (.iastore, 1) := by decide +kernel
theorem dX4_clear_36 : decode cX4_clear 36 = .ok (.iinc 1 1, 3) := by decide +kernel
theorem dX4_clear_39 : decode cX4_clear 39 = .ok (.goto (-37), 3) := by decide +kernel
theorem dX4_clear_42 : decode cX4_clear 42 = .ok (.aload_n 0, 1) := by decide +kernel
theorem dX4_clear_43 : decode cX4_clear 43 = .ok (.getfield 18, 3) := by decide +kernel
theorem dX4_clear_46 : decode cX4_clear 46 = .ok (.ldc 87, 2) := by decide +kernel
theorem dX4_clear_48 : decode cX4_clear 48 = .ok (.invokestatic 88, 3) := by decide +kernel
theorem dX4_clear_51 : decode cX4_clear 51 = .ok (.return_, 1) := by decide +kernel
theorem dX4_listFits_0 : decode cX4_listFits 0 = .ok (.iconst 1, 1) := by decide +kernel
theorem dX4_listFits_1 : decode cX4_listFits 1 = .ok (.istore_n 2, 1) := by decide +kernel
theorem dX4_listFits_2 : decode cX4_listFits 2 = .ok (.iload_n 2, 1) := by decide +kernel
theorem dX4_listFits_3 : decode cX4_listFits 3 = .ok (.iconst 1, 1) := by decide +kernel
theorem dX4_listFits_4 : decode cX4_listFits 4 = .ok (.aload_n 0, 1) := by decide +kernel
theorem dX4_listFits_5 : decode cX4_listFits 5 = .ok (.getfield 33, 3) := by decide +kernel
theorem dX4_listFits_8 : decode cX4_listFits 8 = .ok (.getfield 94, 3) := by decide +kernel
theorem dX4_listFits_11 : decode cX4_listFits 11 = .ok (.ishl, 1) := by decide +kernel
theorem dX4_listFits_12 : decode cX4_listFits 12 = .ok (.if_icmp .ge 49, 3) := by decide +kernel
theorem dX4_listFits_15 : decode cX4_listFits 15 = .ok (.aload_n 0, 1) := by decide +kernel
theorem dX4_listFits_16 : decode cX4_listFits 16 = .ok (.getfield 33, 3) := by decide +kernel
theorem dX4_listFits_19 : decode cX4_listFits 19 = .ok (.iload_n 1, 1) := by decide +kernel
theorem dX4_listFits_20 : decode cX4_listFits 20 = .ok (.iload_n 2, 1) := by decide +kernel
theorem dX4_listFits_21 : decode cX4_listFits 21 = .ok (.invokevirtual 97, 3) := by decide +kernel
theorem dX4_listFits_24 : decode cX4_listFits 24 = .ok (.ifCond .eq 31, 3) := by decide +kernel
theorem dX4_listFits_27 : decode cX4_listFits 27 = .ok (.aload_n 0, 1) := by decide +kernel
theorem dX4_listFits_28 : decode cX4_listFits 28 = .ok (.getfield 9, 3) := by decide +kernel
theorem dX4_listFits_31 : decode cX4_listFits 31 = .ok (.iload_n 1, 1) := by decide +kernel
theorem dX4_listFits_32 : decode cX4_listFits 32 = .ok (.sipush 256, 3) := by decide +kernel
theorem dX4_listFits_35 : decode cX4_listFits 35 = .ok (.imul, 1) := by decide +kernel
theorem dX4_listFits_36 : decode cX4_listFits 36 = .ok (.aload_n 0, 1) := by decide +kernel
theorem dX4_listFits_37 : decode cX4_listFits 37 = .ok (.getfield 15, 3) := by decide +kernel
theorem dX4_listFits_40 : decode cX4_listFits 40 = .ok (.iload_n 1, 1) := by decide +kernel
theorem dX4_listFits_41 : decode cX4_listFits 41 = .ok (.iaload, 1) := by decide +kernel
theorem dX4_listFits_42 : decode cX4_listFits 42 = .ok (.iadd, 1) := by decide +kernel
theorem dX4_listFits_43 : decode cX4_listFits 43 = .ok (.iload_n 2, 1) := by decide +kernel
theorem dX4_listFits_44 : decode cX4_listFits 44 = .ok (.iastore, 1) := by decide +kernel
theorem dX4_listFits_45 : decode cX4_listFits 45 = .ok (.aload_n 0, 1) := by decide +kernel
theorem dX4_listFits_46 : decode cX4_listFits 46 = .ok (.getfield 15, 3) := by decide +kernel
theorem dX4_listFits_49 : decode cX4_listFits 49 = .ok (.iload_n 1, 1) := by decide +kernel
theorem dX4_listFits_50 : decode cX4_listFits 50 = .ok (.dup2, 1) := by decide +kernel
theorem dX4_listFits_51 : decode cX4_listFits 51 = .ok (.iaload, 1) := by decide +kernel
theorem dX4_listFits_52 : decode cX4_listFits 52 = .ok (.iconst 1, 1) := by decide +kernel
theorem dX4_listFits_53 : decode cX4_listFits 53 = .ok (.iadd, 1) := by decide +kernel
theorem dX4_listFits_54 : decode cX4_listFits 54 = .ok (.iastore, 1) := by decide +kernel
theorem dX4_listFits_55 : decode cX4_listFits 55 = .ok (.iinc 2 1, 3) := by decide +kernel
theorem dX4_listFits_58 : decode cX4_listFits 58 = .ok (.goto (-56), 3) := by decide +kernel
theorem dX4_listFits_61 : decode cX4_listFits 61 = .ok (.return_, 1) := by decide +kernel
theorem dX4_cheapestQueue_0 : decode cX4_cheapestQueue 0 = .ok (.iconst (-1), 1) := by decide +kernel
theorem dX4_cheapestQueue_1 : decode cX4_cheapestQueue 1 = .ok (.istore_n 1, 1) := by decide +kernel
theorem dX4_cheapestQueue_2 : decode cX4_cheapestQueue 2 = .ok (.ldc 87, 2) := by decide +kernel
theorem dX4_cheapestQueue_4 : decode cX4_cheapestQueue 4 = .ok (.istore_n 2, 1) := by decide +kernel
theorem dX4_cheapestQueue_5 : decode cX4_cheapestQueue 5 = .ok (.iconst 0, 1) := by decide +kernel
theorem dX4_cheapestQueue_6 : decode cX4_cheapestQueue 6 = .ok (.istore_n 3, 1) := by decide +kernel
theorem dX4_cheapestQueue_7 : decode cX4_cheapestQueue 7 = .ok (.iload_n 3, 1) := by decide +kernel
theorem dX4_cheapestQueue_8 : decode cX4_cheapestQueue 8 = .ok (.iconst 3, 1) := by decide +kernel
theorem dX4_cheapestQueue_9 : decode cX4_cheapestQueue 9 = .ok (.if_icmp .ge 63, 3) := by decide +kernel
theorem dX4_cheapestQueue_12 : decode cX4_cheapestQueue 12 = .ok (.aload_n 0, 1) := by decide +kernel
theorem dX4_cheapestQueue_13 : decode cX4_cheapestQueue 13 = .ok (.getfield 27, 3) := by decide +kernel
theorem dX4_cheapestQueue_16 : decode cX4_cheapestQueue 16 = .ok (.iload_n 3, 1) := by decide +kernel
theorem dX4_cheapestQueue_17 : decode cX4_cheapestQueue 17 = .ok (.iaload, 1) := by decide +kernel
theorem dX4_cheapestQueue_18 : decode cX4_cheapestQueue 18 = .ok (.aload_n 0, 1) := by decide +kernel
theorem dX4_cheapestQueue_19 : decode cX4_cheapestQueue 19 = .ok (.getfield 30, 3) := by decide +kernel
theorem dX4_cheapestQueue_22 : decode cX4_cheapestQueue 22 = .ok (.iload_n 3, 1) := by decide +kernel
theorem dX4_cheapestQueue_23 : decode cX4_cheapestQueue 23 = .ok (.iaload, 1) := by decide +kernel
theorem dX4_cheapestQueue_24 : decode cX4_cheapestQueue 24 = .ok (.if_icmp .ge 42, 3) := by decide +kernel
theorem dX4_cheapestQueue_27 : decode cX4_cheapestQueue 27 = .ok (.aload_n 0, 1) := by decide +kernel
theorem dX4_cheapestQueue_28 : decode cX4_cheapestQueue 28 = .ok (.getfield 18, 3) := by decide +kernel
theorem dX4_cheapestQueue_31 : decode cX4_cheapestQueue 31 = .ok (.aload_n 0, 1) := by decide +kernel
theorem dX4_cheapestQueue_32 : decode cX4_cheapestQueue 32 = .ok (.getfield 24, 3) := by decide +kernel
theorem dX4_cheapestQueue_35 : decode cX4_cheapestQueue 35 = .ok (.aload_n 0, 1) := by decide +kernel
theorem dX4_cheapestQueue_36 : decode cX4_cheapestQueue 36 = .ok (.getfield 27, 3) := by decide +kernel
theorem dX4_cheapestQueue_39 : decode cX4_cheapestQueue 39 = .ok (.iload_n 3, 1) := by decide +kernel
theorem dX4_cheapestQueue_40 : decode cX4_cheapestQueue 40 = .ok (.iaload, 1) := by decide +kernel
theorem dX4_cheapestQueue_41 : decode cX4_cheapestQueue 41 = .ok (.iaload, 1) := by decide +kernel
theorem dX4_cheapestQueue_42 : decode cX4_cheapestQueue 42 = .ok (.iaload, 1) := by decide +kernel
theorem dX4_cheapestQueue_43 : decode cX4_cheapestQueue 43 = .ok (.iload_n 2, 1) := by decide +kernel
theorem dX4_cheapestQueue_44 : decode cX4_cheapestQueue 44 = .ok (.if_icmp .ge 22, 3) := by decide +kernel
theorem dX4_cheapestQueue_47 : decode cX4_cheapestQueue 47 = .ok (.iload_n 3, 1) := by decide +kernel
theorem dX4_cheapestQueue_48 : decode cX4_cheapestQueue 48 = .ok (.istore_n 1, 1) := by decide +kernel
theorem dX4_cheapestQueue_49 : decode cX4_cheapestQueue 49 = .ok (.aload_n 0, 1) := by decide +kernel
theorem dX4_cheapestQueue_50 : decode cX4_cheapestQueue 50 = .ok (.getfield 18, 3) := by decide +kernel
theorem dX4_cheapestQueue_53 : decode cX4_cheapestQueue 53 = .ok (.aload_n 0, 1) := by decide +kernel
theorem dX4_cheapestQueue_54 : decode cX4_cheapestQueue 54 = .ok (.getfield 24, 3) := by decide +kernel
theorem dX4_cheapestQueue_57 : decode cX4_cheapestQueue 57 = .ok (.aload_n 0, 1) := by decide +kernel
theorem dX4_cheapestQueue_58 : decode cX4_cheapestQueue 58 = .ok (.getfield 27, 3) := by decide +kernel
theorem dX4_cheapestQueue_61 : decode cX4_cheapestQueue 61 = .ok (.iload_n 3, 1) := by decide +kernel
theorem dX4_cheapestQueue_62 : decode cX4_cheapestQueue 62 = .ok (.iaload, 1) := by decide +kernel
theorem dX4_cheapestQueue_63 : decode cX4_cheapestQueue 63 = .ok (.iaload, 1) := by decide +kernel
theorem dX4_cheapestQueue_64 : decode cX4_cheapestQueue 64 = .ok (.iaload, 1) := by decide +kernel
theorem dX4_cheapestQueue_65 : decode cX4_cheapestQueue 65 = .ok (.istore_n 2, 1) := by decide +kernel
theorem dX4_cheapestQueue_66 : decode cX4_cheapestQueue 66 = .ok (.iinc 3 1, 3) := by decide +kernel
theorem dX4_cheapestQueue_69 : decode cX4_cheapestQueue 69 = .ok (.goto (-62), 3) := by decide +kernel
theorem dX4_cheapestQueue_72 : decode cX4_cheapestQueue 72 = .ok (.iload_n 1, 1) := by decide +kernel
theorem dX4_cheapestQueue_73 : decode cX4_cheapestQueue 73 = .ok (.ireturn, 1) := by decide +kernel
theorem dX4_spread_0 : decode cX4_spread 0 = .ok (.iload_n 2, 1) := by decide +kernel
theorem dX4_spread_1 : decode cX4_spread 1 = .ok (.iload_n 1, 1) := by decide +kernel
theorem dX4_spread_2 : decode cX4_spread 2 = .ok (.invokestatic 101, 3) := by decide +kernel
theorem dX4_spread_5 : decode cX4_spread 5 = .ok (.istore 5, 2) := by decide +kernel
theorem dX4_spread_7 : decode cX4_spread 7 = .ok (.iconst 0, 1) := by decide +kernel
theorem dX4_spread_8 : decode cX4_spread 8 = .ok (.istore 6, 2) := by decide +kernel
theorem dX4_spread_10 : decode cX4_spread 10 = .ok (.iload 6, 2) := by decide +kernel
theorem dX4_spread_12 : decode cX4_spread 12 = .ok (.aload_n 0, 1) := by decide +kernel
theorem dX4_spread_13 : decode cX4_spread 13 = .ok (.getfield 15, 3) := by decide +kernel
theorem dX4_spread_16 : decode cX4_spread 16 = .ok (.iload_n 2, 1) := by decide +kernel
theorem dX4_spread_17 : decode cX4_spread 17 = .ok (.iaload, 1) := by decide +kernel
theorem dX4_spread_18 : decode cX4_spread 18 = .ok (.if_icmp .ge 65, 3) := by decide +kernel
theorem dX4_spread_21 : decode cX4_spread 21 = .ok (.aload_n 0, 1) := by decide +kernel
theorem dX4_spread_22 : decode cX4_spread 22 = .ok (.getfield 9, 3) := by decide +kernel
theorem dX4_spread_25 : decode cX4_spread 25 = .ok (.iload_n 2, 1) := by decide +kernel
theorem dX4_spread_26 : decode cX4_spread 26 = .ok (.sipush 256, 3) := by decide +kernel
theorem dX4_spread_29 : decode cX4_spread 29 = .ok (.imul, 1) := by decide +kernel
theorem dX4_spread_30 : decode cX4_spread 30 = .ok (.iload 6, 2) := by decide +kernel
theorem dX4_spread_32 : decode cX4_spread 32 = .ok (.iadd, 1) := by decide +kernel
theorem dX4_spread_33 : decode cX4_spread 33 = .ok (.iaload, 1) := by decide +kernel
theorem dX4_spread_34 : decode cX4_spread 34 = .ok (.istore 7, 2) := by decide +kernel
theorem dX4_spread_36 : decode cX4_spread 36 = .ok (.iload 5, 2) := by decide +kernel
theorem dX4_spread_38 : decode cX4_spread 38 = .ok (.iload 7, 2) := by decide +kernel
theorem dX4_spread_40 : decode cX4_spread 40 = .ok (.iload_n 1, 1) := by decide +kernel
theorem dX4_spread_41 : decode cX4_spread 41 = .ok (.invokestatic 67, 3) := by decide +kernel
theorem dX4_spread_44 : decode cX4_spread 44 = .ok (.ifCond .eq 33, 3) := by decide +kernel
theorem dX4_spread_47 : decode cX4_spread 47 = .ok (.iload_n 2, 1) := by decide +kernel
theorem dX4_spread_48 : decode cX4_spread 48 = .ok (.iload 7, 2) := by decide +kernel
theorem dX4_spread_50 : decode cX4_spread 50 = .ok (.invokestatic 104, 3) := by decide +kernel
theorem dX4_spread_53 : decode cX4_spread 53 = .ok (.istore 8, 2) := by decide +kernel
theorem dX4_spread_55 : decode cX4_spread 55 = .ok (.aload_n 0, 1) := by decide +kernel
theorem dX4_spread_56 : decode cX4_spread 56 = .ok (.iload_n 1, 1) := by decide +kernel
theorem dX4_spread_57 : decode cX4_spread 57 = .ok (.iload 8, 2) := by decide +kernel
theorem dX4_spread_59 : decode cX4_spread 59 = .ok (.invokestatic 83, 3) := by decide +kernel
theorem dX4_spread_62 : decode cX4_spread 62 = .ok (.iload 8, 2) := by decide +kernel
theorem dX4_spread_64 : decode cX4_spread 64 = .ok (.aload_n 0, 1) := by decide +kernel
theorem dX4_spread_65 : decode cX4_spread 65 = .ok (.getfield 18, 3) := by decide +kernel
theorem dX4_spread_68 : decode cX4_spread 68 = .ok (.iload_n 1, 1) := by decide +kernel
theorem dX4_spread_69 : decode cX4_spread 69 = .ok (.iaload, 1) := by decide +kernel
theorem dX4_spread_70 : decode cX4_spread 70 = .ok (.iload 4, 2) := by decide +kernel
theorem dX4_spread_72 : decode cX4_spread 72 = .ok (.iadd, 1) := by decide +kernel
theorem dX4_spread_73 : decode cX4_spread 73 = .ok (.iload_n 3, 1) := by decide +kernel
theorem dX4_spread_74 : decode cX4_spread 74 = .ok (.invokevirtual 59, 3) := by decide +kernel
theorem dX4_spread_77 : decode cX4_spread 77 = .ok (.iinc 6 1, 3) := by decide +kernel
theorem dX4_spread_80 : decode cX4_spread 80 = .ok (.goto (-70), 3) := by decide +kernel
theorem dX4_spread_83 : decode cX4_spread 83 = .ok (.return_, 1) := by decide +kernel
theorem dX4_reach_0 : decode cX4_reach 0 = .ok (.iload_n 3, 1) := by decide +kernel
theorem dX4_reach_1 : decode cX4_reach 1 = .ok (.aload_n 0, 1) := by decide +kernel
theorem dX4_reach_2 : decode cX4_reach 2 = .ok (.getfield 18, 3) := by decide +kernel
theorem dX4_reach_5 : decode cX4_reach 5 = .ok (.iload_n 1, 1) := by decide +kernel
theorem dX4_reach_6 : decode cX4_reach 6 = .ok (.iaload, 1) := by decide +kernel
theorem dX4_reach_7 : decode cX4_reach 7 = .ok (.if_icmp .ge 59, 3) := by decide +kernel
theorem dX4_reach_10 : decode cX4_reach 10 = .ok (.aload_n 0, 1) := by decide +kernel
theorem dX4_reach_11 : decode cX4_reach 11 = .ok (.getfield 30, 3) := by decide +kernel
theorem dX4_reach_14 : decode cX4_reach 14 = .ok (.iload 4, 2) := by decide +kernel
theorem dX4_reach_16 : decode cX4_reach 16 = .ok (.iaload, 1) := by decide +kernel
theorem dX4_reach_17 : decode cX4_reach 17 = .ok (.iload 4, 2) := by decide +kernel
theorem dX4_reach_19 : decode cX4_reach 19 = .ok (.iconst 1, 1) := by decide +kernel
theorem dX4_reach_20 : decode cX4_reach 20 = .ok (.iadd, 1) := by decide +kernel
theorem dX4_reach_21 : decode cX4_reach 21 = .ok (.sipush 2048, 3) := by decide +kernel
theorem dX4_reach_24 : decode cX4_reach 24 = .ok (.imul, 1) := by decide +kernel
theorem dX4_reach_25 : decode cX4_reach 25 = .ok (.if_icmp .ge 41, 3) := by decide +kernel
theorem dX4_reach_28 : decode cX4_reach 28 = .ok (.aload_n 0, 1) := by decide +kernel
theorem dX4_reach_29 : decode cX4_reach 29 = .ok (.getfield 18, 3) := by decide +kernel
theorem dX4_reach_32 : decode cX4_reach 32 = .ok (.iload_n 1, 1) := by decide +kernel
theorem dX4_reach_33 : decode cX4_reach 33 = .ok (.iload_n 3, 1) := by decide +kernel
theorem dX4_reach_34 : decode cX4_reach 34 = .ok (.iastore, 1) := by decide +kernel
theorem dX4_reach_35 : decode cX4_reach 35 = .ok (.aload_n 0, 1) := by decide +kernel
theorem dX4_reach_36 : decode cX4_reach 36 = .ok (.getfield 21, 3) := by decide +kernel
theorem dX4_reach_39 : decode cX4_reach 39 = .ok (.iload_n 1, 1) := by decide +kernel
theorem dX4_reach_40 : decode cX4_reach 40 = .ok (.iload_n 2, 1) := by decide +kernel
theorem dX4_reach_41 : decode cX4_reach 41 = .ok (.iastore, 1) := by decide +kernel
theorem dX4_reach_42 : decode cX4_reach 42 = .ok (.aload_n 0, 1) := by decide +kernel
theorem dX4_reach_43 : decode cX4_reach 43 = .ok (.getfield 24, 3) := by decide +kernel
theorem dX4_reach_46 : decode cX4_reach 46 = .ok (.aload_n 0, 1) := by decide +kernel
theorem dX4_reach_47 : decode cX4_reach 47 = .ok (.getfield 30, 3) := by decide +kernel
theorem dX4_reach_50 : decode cX4_reach 50 = .ok (.iload 4, 2) := by decide +kernel
theorem dX4_reach_52 : decode cX4_reach 52 = .ok (.iaload, 1) := by decide +kernel
theorem dX4_reach_53 : decode cX4_reach 53 = .ok (.iload_n 1, 1) := by decide +kernel
theorem dX4_reach_54 : decode cX4_reach 54 = .ok (.iastore, 1) := by decide +kernel
theorem dX4_reach_55 : decode cX4_reach 55 = .ok (.aload_n 0, 1) := by decide +kernel
theorem dX4_reach_56 : decode cX4_reach 56 = .ok (.getfield 30, 3) := by decide +kernel
theorem dX4_reach_59 : decode cX4_reach 59 = .ok (.iload 4, 2) := by decide +kernel
theorem dX4_reach_61 : decode cX4_reach 61 = .ok (.dup2, 1) := by decide +kernel
theorem dX4_reach_62 : decode cX4_reach 62 = .ok (.iaload, 1) := by decide +kernel
theorem dX4_reach_63 : decode cX4_reach 63 = .ok (.iconst 1, 1) := by decide +kernel
theorem dX4_reach_64 : decode cX4_reach 64 = .ok (.iadd, 1) := by decide +kernel
theorem dX4_reach_65 : decode cX4_reach 65 = .ok (.iastore, 1) := by decide +kernel
theorem dX4_reach_66 : decode cX4_reach 66 = .ok (.return_, 1) := by decide +kernel
theorem dX5_init_0 : decode cX5_init 0 = .ok (.aload_n 0, 1) := by decide +kernel
theorem dX5_init_1 : decode cX5_init 1 = .ok (.invokespecial 1, 3) := by decide +kernel
theorem dX5_init_4 : decode cX5_init 4 = .ok (.aload_n 0, 1) := by decide +kernel
theorem dX5_init_5 : decode cX5_init 5 = .ok (.iconst 0, 1) := by decide +kernel
theorem dX5_init_6 : decode cX5_init 6 = .ok (.putfield 7, 3) := by decide +kernel
theorem dX5_init_9 : decode cX5_init 9 = .ok (.aload_n 0, 1) := by decide +kernel
theorem dX5_init_10 : decode cX5_init 10 = .ok (.iconst 0, 1) := by decide +kernel
theorem dX5_init_11 : decode cX5_init 11 = .ok (.putfield 13, 3) := by decide +kernel
theorem dX5_init_14 : decode cX5_init 14 = .ok (.aload_n 0, 1) := by decide +kernel
theorem dX5_init_15 : decode cX5_init 15 = .ok (.iconst 0, 1) := by decide +kernel
theorem dX5_init_16 : decode cX5_init 16 = .ok (.putfield 17, 3) := by decide +kernel
theorem dX5_init_19 : decode cX5_init 19 = .ok (.aload_n 0, 1) := by decide +kernel
theorem dX5_init_20 : decode cX5_init 20 = .ok (.iconst 0, 1) := by decide +kernel
theorem dX5_init_21 : decode cX5_init 21 = .ok (.putfield 20, 3) := by decide +kernel
theorem dX5_init_24 : decode cX5_init 24 = .ok (.aload_n 0, 1) := by decide +kernel
theorem dX5_init_25 : decode cX5_init 25 = .ok (.iconst 0, 1) := by decide +kernel
theorem dX5_init_26 : decode cX5_init 26 = .ok (.putfield 23, 3) := by decide +kernel
theorem dX5_init_29 : decode cX5_init 29 = .ok (.return_, 1) := by decide +kernel
theorem dX5_become_0 : decode cX5_become 0 = .ok (.aload_n 0, 1) := by decide +kernel
theorem dX5_become_1 : decode cX5_become 1 = .ok (.aload_n 1, 1) := by decide +kernel
theorem dX5_become_2 : decode cX5_become 2 = .ok (.getfield 13, 3) := by decide +kernel
theorem dX5_become_5 : decode cX5_become 5 = .ok (.putfield 13, 3) := by decide +kernel
theorem dX5_become_8 : decode cX5_become 8 = .ok (.aload_n 0, 1) := by decide +kernel
theorem dX5_become_9 : decode cX5_become 9 = .ok (.aload_n 1, 1) := by decide +kernel
theorem dX5_become_10 : decode cX5_become 10 = .ok (.getfield 17, 3) := by decide +kernel
theorem dX5_become_13 : decode cX5_become 13 = .ok (.putfield 17, 3) := by decide +kernel
theorem dX5_become_16 : decode cX5_become 16 = .ok (.aload_n 0, 1) := by decide +kernel
theorem dX5_become_17 : decode cX5_become 17 = .ok (.aload_n 1, 1) := by decide +kernel
theorem dX5_become_18 : decode cX5_become 18 = .ok (.getfield 20, 3) := by decide +kernel
theorem dX5_become_21 : decode cX5_become 21 = .ok (.putfield 20, 3) := by decide +kernel
theorem dX5_become_24 : decode cX5_become 24 = .ok (.aload_n 0, 1) := by decide +kernel
theorem dX5_become_25 : decode cX5_become 25 = .ok (.aload_n 1, 1) := by decide +kernel
theorem dX5_become_26 : decode cX5_become 26 = .ok (.getfield 23, 3) := by decide +kernel
theorem dX5_become_29 : decode cX5_become 29 = .ok (.putfield 23, 3) := by decide +kernel
theorem dX5_become_32 : decode cX5_become 32 = .ok (.return_, 1) := by decide +kernel
theorem dX6_init_0 : decode cX6_init 0 = .ok (.aload_n 0, 1) := by decide +kernel
theorem dX6_init_1 : decode cX6_init 1 = .ok (.invokespecial 3, 3) := by decide +kernel
theorem dX6_init_4 : decode cX6_init 4 = .ok (.aload_n 0, 1) := by decide +kernel
theorem dX6_init_5 : decode cX6_init 5 = .ok (.aload_n 1, 1) := by decide +kernel
theorem dX6_init_6 : decode cX6_init 6 = .ok (.putfield 9, 3) := by decide +kernel
theorem dX6_init_9 : decode cX6_init 9 = .ok (.return_, 1) := by decide +kernel
theorem dX6_make_0 : decode cX6_make 0 = .ok (.aload_n 0, 1) := by decide +kernel
theorem dX6_make_1 : decode cX6_make 1 = .ok (.iconst 0, 1) := by decide +kernel
theorem dX6_make_2 : decode cX6_make 2 = .ok (.putfield 15, 3) := by decide +kernel
theorem dX6_make_5 : decode cX6_make 5 = .ok (.aload_n 0, 1) := by decide +kernel
theorem dX6_make_6 : decode cX6_make 6 = .ok (.iconst 0, 1) := by decide +kernel
theorem dX6_make_7 : decode cX6_make 7 = .ok (.putfield 19, 3) := by decide +kernel
theorem dX6_make_10 : decode cX6_make 10 = .ok (.aload_n 0, 1) := by decide +kernel
theorem dX6_make_11 : decode cX6_make 11 = .ok (.iconst (-1), 1) := by decide +kernel
theorem dX6_make_12 : decode cX6_make 12 = .ok (.putfield 22, 3) := by decide +kernel
