theorem dX6_make_15 : decode cX6_make 15 = .ok (.aload_n 0, 1) := by decide +kernel
theorem dX6_make_16 : decode cX6_make 16 = .ok (.iconst (-1), 1) := by decide +kernel
theorem dX6_make_17 : decode cX6_make 17 = .ok (.putfield 25, 3) := by decide +kernel
theorem dX6_make_20 : decode cX6_make 20 = .ok (.aload_n 0, 1) := by decide +kernel
theorem dX6_make_21 : decode cX6_make 21 = .ok (.iconst (-1), 1) := by decide +kernel
theorem dX6_make_22 : decode cX6_make 22 = .ok (.putfield 28, 3) := by decide +kernel
theorem dX6_make_25 : decode cX6_make 25 = .ok (.aload_n 0, 1) := by decide +kernel
theorem dX6_make_26 : decode cX6_make 26 = .ok (.iconst (-1), 1) := by decide +kernel
theorem dX6_make_27 : decode cX6_make 27 = .ok (.putfield 31, 3) := by decide +kernel
theorem dX6_make_30 : decode cX6_make 30 = .ok (.aload_n 0, 1) := by decide +kernel
theorem dX6_make_31 : decode cX6_make 31 = .ok (.iconst (-1), 1) := by decide +kernel
theorem dX6_make_32 : decode cX6_make 32 = .ok (.putfield 34, 3) := by decide +kernel
theorem dX6_make_35 : decode cX6_make 35 = .ok (.iconst 1, 1) := by decide +kernel
theorem dX6_make_36 : decode cX6_make 36 = .ok (.istore 4, 2) := by decide +kernel
theorem dX6_make_38 : decode cX6_make 38 = .ok (.iload 4, 2) := by decide +kernel
theorem dX6_make_40 : decode cX6_make 40 = .ok (.iconst 1, 1) := by decide +kernel
theorem dX6_make_41 : decode cX6_make 41 = .ok (.aload_n 0, 1) := by decide +kernel
theorem dX6_make_42 : decode cX6_make 42 = .ok (.getfield 9, 3) := by decide +kernel
theorem dX6_make_45 : decode cX6_make 45 = .ok (.getfield 37, 3) := by decide +kernel
theorem dX6_make_48 : decode cX6_make 48 = .ok (.ishl, 1) := by decide +kernel
theorem dX6_make_49 : decode cX6_make 49 = .ok (.if_icmp .ge 72, 3) := by decide +kernel
theorem dX6_make_52 : decode cX6_make 52 = .ok (.iload 4, 2) := by decide +kernel
theorem dX6_make_54 : decode cX6_make 54 = .ok (.iload_n 2, 1) := by decide +kernel
theorem dX6_make_55 : decode cX6_make 55 = .ok (.iand, 1) := by decide +kernel
theorem dX6_make_56 : decode cX6_make 56 = .ok (.iload_n 2, 1) := by decide +kernel
theorem dX6_make_57 : decode cX6_make 57 = .ok (.if_icmp .ne 58, 3) := by decide +kernel
theorem dX6_make_60 : decode cX6_make 60 = .ok (.iload 4, 2) := by decide +kernel
theorem dX6_make_62 : decode cX6_make 62 = .ok (.iload_n 3, 1) := by decide +kernel
theorem dX6_make_63 : decode cX6_make 63 = .ok (.iand, 1) := by decide +kernel
theorem dX6_make_64 : decode cX6_make 64 = .ok (.ifCond .ne 51, 3) := by decide +kernel
theorem dX6_make_67 : decode cX6_make 67 = .ok (.aload_n 0, 1) := by decide +kernel
theorem dX6_make_68 : decode cX6_make 68 = .ok (.getfield 9, 3) := by decide +kernel
theorem dX6_make_71 : decode cX6_make 71 = .ok (.iload_n 1, 1) := by decide +kernel
theorem dX6_make_72 : decode cX6_make 72 = .ok (.iload 4, 2) := by decide +kernel
theorem dX6_make_74 : decode cX6_make 74 = .ok (.aload_n 0, 1) := by decide +kernel
theorem dX6_make_75 : decode cX6_make 75 = .ok (.getfield 9, 3) := by decide +kernel
theorem dX6_make_78 : decode cX6_make 78 = .ok (.getfield 42, 3) := by decide +kernel
theorem dX6_make_81 : decode cX6_make 81 = .ok (.getfield 46, 3) := by decide +kernel
theorem dX6_make_84 : decode cX6_make 84 = .ok (.invokevirtual 51, 3) := by decide +kernel
theorem dX6_make_87 : decode cX6_make 87 = .ok (.ifCond .eq 28, 3) := by decide +kernel
theorem dX6_make_90 : decode cX6_make 90 = .ok (.aload_n 0, 1) := by decide +kernel
theorem dX6_make_91 : decode cX6_make 91 = .ok (.iload 4, 2) := by decide +kernel
theorem dX6_make_93 : decode cX6_make 93 = .ok (.aload_n 0, 1) := by decide +kernel
theorem dX6_make_94 : decode cX6_make 94 = .ok (.getfield 9, 3) := by decide +kernel
theorem dX6_make_97 : decode cX6_make 97 = .ok (.iload 4, 2) := by decide +kernel
theorem dX6_make_99 : decode cX6_make 99 = .ok (.invokevirtual 55, 3) := by decide +kernel
theorem dX6_make_102 : decode cX6_make 102 = .ok (.aload_n 0, 1) := by decide +kernel
theorem dX6_make_103 : decode cX6_make 103 = .ok (.getfield 9, 3) := by decide +kernel
theorem dX6_make_106 : decode cX6_make 106 = .ok (.iload_n 1, 1) := by decide +kernel
theorem dX6_make_107 : decode cX6_make 107 = .ok (.iload 4, 2) := by decide +kernel
theorem dX6_make_109 : decode cX6_make 109 = .ok (.invokevirtual 59, 3) := by decide +kernel
theorem dX6_make_112 : decode cX6_make 112 = .ok (.invokevirtual 63, 3) := by decide +kernel
theorem dX6_make_115 : decode cX6_make 115 = .ok (.iinc 4 1, 3) := by decide +kernel
theorem dX6_make_118 : decode cX6_make 118 = .ok (.goto (-80), 3) := by decide +kernel
theorem dX6_make_121 : decode cX6_make 121 = .ok (.return_, 1) := by decide +kernel
theorem dX6_take_0 : decode cX6_take 0 = .ok (.aload_n 0, 1) := by decide +kernel
theorem dX6_take_1 : decode cX6_take 1 = .ok (.getfield 15, 3) := by decide +kernel
theorem dX6_take_4 : decode cX6_take 4 = .ok (.ifCond .ne 8, 3) := by decide +kernel
theorem dX6_take_7 : decode cX6_take 7 = .ok (.aload_n 0, 1) := by decide +kernel
theorem dX6_take_8 : decode cX6_take 8 = .ok (.iload_n 1, 1) := by decide +kernel
theorem dX6_take_9 : decode cX6_take 9 = .ok (.putfield 22, 3) := by decide +kernel
theorem dX6_take_12 : decode cX6_take 12 = .ok (.iload_n 2, 1) := by decide +kernel
theorem dX6_take_13 : decode cX6_take 13 = .ok (.aload_n 0, 1) := by decide +kernel
theorem dX6_take_14 : decode cX6_take 14 = .ok (.getfield 28, 3) := by decide +kernel
theorem dX6_take_17 : decode cX6_take 17 = .ok (.if_icmp .le 13, 3) := by decide +kernel
theorem dX6_take_20 : decode cX6_take 20 = .ok (.aload_n 0, 1) := by decide +kernel
theorem dX6_take_21 : decode cX6_take 21 = .ok (.iload_n 1, 1) := by decide +kernel
theorem dX6_take_22 : decode cX6_take 22 = .ok (.putfield 25, 3) := by decide +kernel
theorem dX6_take_25 : decode cX6_take 25 = .ok (.aload_n 0, 1) := by decide +kernel
theorem dX6_take_26 : decode cX6_take 26 = .ok (.iload_n 2, 1) := by decide +kernel
theorem dX6_take_27 : decode cX6_take 27 = .ok (.putfield 28, 3) := by decide +kernel
theorem dX6_take_30 : decode cX6_take 30 = .ok (.aload_n 0, 1) := by decide +kernel
theorem dX6_take_31 : decode cX6_take 31 = .ok (.aload_n 0, 1) := by decide +kernel
theorem dX6_take_32 : decode cX6_take 32 = .ok (.getfield 15, 3) := by decide +kernel
theorem dX6_take_35 : decode cX6_take 35 = .ok (.ifCond .ne 7, 3) := by decide +kernel
theorem dX6_take_38 : decode cX6_take 38 = .ok (.iload_n 1, 1) := by decide +kernel
theorem dX6_take_39 : decode cX6_take 39 = .ok (.goto 9, 3) := by decide +kernel
theorem dX6_take_42 : decode cX6_take 42 = .ok (.aload_n 0, 1) := by decide +kernel
theorem dX6_take_43 : decode cX6_take 43 = .ok (.getfield 31, 3) := by decide +kernel
theorem dX6_take_46 : decode cX6_take 46 = .ok (.iload_n 1, 1) := by decide +kernel
theorem dX6_take_47 : decode cX6_take 47 = .ok (.ior, 1) := by decide +kernel
theorem dX6_take_48 : decode cX6_take 48 = .ok (.putfield 31, 3) := by decide +kernel
theorem dX6_take_51 : decode cX6_take 51 = .ok (.aload_n 0, 1) := by decide +kernel
theorem dX6_take_52 : decode cX6_take 52 = .ok (.aload_n 0, 1) := by decide +kernel
theorem dX6_take_53 : decode cX6_take 53 = .ok (.getfield 15, 3) := by decide +kernel
theorem dX6_take_56 : decode cX6_take 56 = .ok (.ifCond .ne 7, 3) := by decide +kernel
theorem dX6_take_59 : decode cX6_take 59 = .ok (.iload_n 1, 1) := by decide +kernel
theorem dX6_take_60 : decode cX6_take 60 = .ok (.goto 9, 3) := by decide +kernel
theorem dX6_take_63 : decode cX6_take 63 = .ok (.aload_n 0, 1) := by decide +kernel
theorem dX6_take_64 : decode cX6_take 64 = .ok (.getfield 34, 3) := by decide +kernel
theorem dX6_take_67 : decode cX6_take 67 = .ok (.iload_n 1, 1) := by decide +kernel
theorem dX6_take_68 : decode cX6_take 68 = .ok (.iand, 1) := by decide +kernel
theorem dX6_take_69 : decode cX6_take 69 = .ok (.putfield 34, 3) := by decide +kernel
theorem dX6_take_72 : decode cX6_take 72 = .ok (.aload_n 0, 1) := by decide +kernel
theorem dX6_take_73 : decode cX6_take 73 = .ok (.dup, 1) := by decide +kernel
theorem dX6_take_74 : decode cX6_take 74 = .ok (.getfield 15, 3) := by decide +kernel
theorem dX6_take_77 : decode cX6_take 77 = .ok (.iconst 1, 1) := by decide +kernel
theorem dX6_take_78 : decode cX6_take 78 = .ok (.iadd, 1) := by decide +kernel
theorem dX6_take_79 : decode cX6_take 79 = .ok (.putfield 15, 3) := by decide +kernel
theorem dX6_take_82 : decode cX6_take 82 = .ok (.iload_n 3, 1) := by decide +kernel
theorem dX6_take_83 : decode cX6_take 83 = .ok (.ifCond .eq 13, 3) := by decide +kernel
theorem dX6_take_86 : decode cX6_take 86 = .ok (.aload_n 0, 1) := by decide +kernel
theorem dX6_take_87 : decode cX6_take 87 = .ok (.dup, 1) := by decide +kernel
theorem dX6_take_88 : decode cX6_take 88 = .ok (.getfield 19, 3) := by decide +kernel
theorem dX6_take_91 : decode cX6_take 91 = .ok (.iconst 1, 1) := by decide +kernel
theorem dX6_take_92 : decode cX6_take 92 = .ok (.iadd, 1) := by decide +kernel
theorem dX6_take_93 : decode cX6_take 93 = .ok (.putfield 19, 3) := by decide +kernel
theorem dX6_take_96 : decode cX6_take 96 = .ok (.return_, 1) := by decide +kernel
theorem dX7_init_0 : decode cX7_init 0 = .ok (.aload_n 0, 1) := by decide +kernel
theorem dX7_init_1 : decode cX7_init 1 = .ok (.invokespecial 3, 3) := by decide +kernel
theorem dX7_init_4 : decode cX7_init 4 = .ok (.aload_n 0, 1) := by decide +kernel
theorem dX7_init_5 : decode cX7_init 5 = .ok (.sipush 200, 3) := by decide +kernel
theorem dX7_init_8 : decode cX7_init 8 = .ok (.newarray .int, 2) := by decide +kernel
theorem dX7_init_10 : decode cX7_init 10 = .ok (.putfield 9, 3) := by decide +kernel
theorem dX7_init_13 : decode cX7_init 13 = .ok (.aload_n 0, 1) := by decide +kernel
theorem dX7_init_14 : decode cX7_init 14 = .ok (.iconst 0, 1) := by decide +kernel
theorem dX7_init_15 : decode cX7_init 15 = .ok (.putfield 15, 3) := by decide +kernel
theorem dX7_init_18 : decode cX7_init 18 = .ok (.return_, 1) := by decide +kernel
theorem dX7_add_0 : decode cX7_add 0 = .ok (.aload_n 0, 1) := by decide +kernel
theorem dX7_add_1 : decode cX7_add 1 = .ok (.getfield 15, 3) := by decide +kernel
theorem dX7_add_4 : decode cX7_add 4 = .ok (.sipush 200, 3) := by decide +kernel
theorem dX7_add_7 : decode cX7_add 7 = .ok (.if_icmp .ge 23, 3) := by decide +kernel
theorem dX7_add_10 : decode cX7_add 10 = .ok (.aload_n 0, 1) := by decide +kernel
theorem dX7_add_11 : decode cX7_add 11 = .ok (.getfield 9, 3) := by decide +kernel
theorem dX7_add_14 : decode cX7_add 14 = .ok (.aload_n 0, 1) := by decide +kernel
theorem dX7_add_15 : decode cX7_add 15 = .ok (.getfield 15, 3) := by decide +kernel
theorem dX7_add_18 : decode cX7_add 18 = .ok (.iload_n 1, 1) := by decide +kernel
theorem dX7_add_19 : decode cX7_add 19 = .ok (.iastore, 1) := by decide +kernel
theorem dX7_add_20 : decode cX7_add 20 = .ok (.aload_n 0, 1) := by decide +kernel
theorem dX7_add_21 : decode cX7_add 21 = .ok (.dup, 1) := by decide +kernel
theorem dX7_add_22 : decode cX7_add 22 = .ok (.getfield 15, 3) := by decide +kernel
theorem dX7_add_25 : decode cX7_add 25 = .ok (.iconst 1, 1) := by decide +kernel
theorem dX7_add_26 : decode cX7_add 26 = .ok (.iadd, 1) := by decide +kernel
theorem dX7_add_27 : decode cX7_add 27 = .ok (.putfield 15, 3) := by decide +kernel
theorem dX7_add_30 : decode cX7_add 30 = .ok (.return_, 1) := by decide +kernel
theorem dX7_empty_0 : decode cX7_empty 0 = .ok (.aload_n 0, 1) := by decide +kernel
theorem dX7_empty_1 : decode cX7_empty 1 = .ok (.getfield 15, 3) := by decide +kernel
theorem dX7_empty_4 : decode cX7_empty 4 = .ok (.istore_n 1, 1) := by decide +kernel
theorem dX7_empty_5 : decode cX7_empty 5 = .ok (.aload_n 0, 1) := by decide +kernel
theorem dX7_empty_6 : decode cX7_empty 6 = .ok (.iconst 0, 1) := by decide +kernel
theorem dX7_empty_7 : decode cX7_empty 7 = .ok (.putfield 15, 3) := by decide +kernel
theorem dX7_empty_10 : decode cX7_empty 10 = .ok (.iload_n 1, 1) := by decide +kernel
theorem dX7_empty_11 : decode cX7_empty 11 = .ok (.ireturn, 1) := by decide +kernel
theorem dX7_byteAt_0 : decode cX7_byteAt 0 = .ok (.iload_n 1, 1) := by decide +kernel
theorem dX7_byteAt_1 : decode cX7_byteAt 1 = .ok (.ifCond .lt 20, 3) := by decide +kernel
theorem dX7_byteAt_4 : decode cX7_byteAt 4 = .ok (.iload_n 1, 1) := by decide +kernel
theorem dX7_byteAt_5 : decode cX7_byteAt 5 = .ok (.aload_n 0, 1) := by decide +kernel
theorem dX7_byteAt_6 : decode cX7_byteAt 6 = .ok (.getfield 15, 3) := by decide +kernel
theorem dX7_byteAt_9 : decode cX7_byteAt 9 = .ok (.if_icmp .ge 12, 3) := by decide +kernel
theorem dX7_byteAt_12 : decode cX7_byteAt 12 = .ok (.aload_n 0, 1) := by decide +kernel
theorem dX7_byteAt_13 : decode cX7_byteAt 13 = .ok (.getfield 9, 3) := by decide +kernel
theorem dX7_byteAt_16 : decode cX7_byteAt 16 = .ok (.iload_n 1, 1) := by decide +kernel
theorem dX7_byteAt_17 : decode cX7_byteAt 17 = .ok (.iaload, 1) := by decide +kernel
theorem dX7_byteAt_18 : decode cX7_byteAt 18 = .ok (.goto 4, 3) := by decide +kernel
theorem dX7_byteAt_21 : decode cX7_byteAt 21 = .ok (.iconst (-1), 1) := by decide +kernel
theorem dX7_byteAt_22 : decode cX7_byteAt 22 = .ok (.ireturn, 1) := by decide +kernel
theorem dX8_init_0 : decode cX8_init 0 = .ok (.aload_n 0, 1) := by decide +kernel
theorem dX8_init_1 : decode cX8_init 1 = .ok (.invokespecial 3, 3) := by decide +kernel
theorem dX8_init_4 : decode cX8_init 4 = .ok (.return_, 1) := by decide +kernel
theorem dX8_tell_0 : decode cX8_tell 0 = .ok (.aload_n 0, 1) := by decide +kernel
theorem dX8_tell_1 : decode cX8_tell 1 = .ok (.iload_n 1, 1) := by decide +kernel
theorem dX8_tell_2 : decode cX8_tell 2 = .ok (.putfield 9, 3) := by decide +kernel
theorem dX8_tell_5 : decode cX8_tell 5 = .ok (.aload_n 0, 1) := by decide +kernel
theorem dX8_tell_6 : decode cX8_tell 6 = .ok (.iload_n 2, 1) := by decide +kernel
theorem dX8_tell_7 : decode cX8_tell 7 = .ok (.putfield 15, 3) := by decide +kernel
theorem dX8_tell_10 : decode cX8_tell 10 = .ok (.aload_n 0, 1) := by decide +kernel
theorem dX8_tell_11 : decode cX8_tell 11 = .ok (.iload_n 3, 1) := by decide +kernel
theorem dX8_tell_12 : decode cX8_tell 12 = .ok (.putfield 18, 3) := by decide +kernel
theorem dX8_tell_15 : decode cX8_tell 15 = .ok (.aload_n 0, 1) := by decide +kernel
theorem dX8_tell_16 : decode cX8_tell 16 = .ok (.iconst 0, 1) := by decide +kernel
theorem dX8_tell_17 : decode cX8_tell 17 = .ok (.putfield 21, 3) := by decide +kernel
theorem dX8_tell_20 : decode cX8_tell 20 = .ok (.aload_n 0, 1) := by decide +kernel
theorem dX8_tell_21 : decode cX8_tell 21 = .ok (.iconst 0, 1) := by decide +kernel
theorem dX8_tell_22 : decode cX8_tell 22 = .ok (.putfield 24, 3) := by decide +kernel
theorem dX8_tell_25 : decode cX8_tell 25 = .ok (.aload_n 0, 1) := by decide +kernel
theorem dX8_tell_26 : decode cX8_tell 26 = .ok (.iconst 0, 1) := by decide +kernel
theorem dX8_tell_27 : decode cX8_tell 27 = .ok (.putfield 27, 3) := by decide +kernel
theorem dX8_tell_30 : decode cX8_tell 30 = .ok (.return_, 1) := by decide +kernel
theorem dX8_hasHat_0 : decode cX8_hasHat 0 = .ok (.aload_n 0, 1) := by decide +kernel
theorem dX8_hasHat_1 : decode cX8_hasHat 1 = .ok (.getfield 9, 3) := by decide +kernel
theorem dX8_hasHat_4 : decode cX8_hasHat 4 = .ok (.invokestatic 31, 3) := by decide +kernel
theorem dX8_hasHat_7 : decode cX8_hasHat 7 = .ok (.ireturn, 1) := by decide +kernel
theorem dX8_isHatted_0 : decode cX8_isHatted 0 = .ok (.iload_n 0, 1) := by decide +kernel
theorem dX8_isHatted_1 : decode cX8_isHatted 1 = .ok (.ifCond .eq 8, 3) := by decide +kernel
theorem dX8_isHatted_4 : decode cX8_isHatted 4 = .ok (.iload_n 0, 1) := by decide +kernel
theorem dX8_isHatted_5 : decode cX8_isHatted 5 = .ok (.iconst 1, 1) := by decide +kernel
theorem dX8_isHatted_6 : decode cX8_isHatted 6 = .ok (.if_icmp .ne 7, 3) := by decide +kernel
theorem dX8_isHatted_9 : decode cX8_isHatted 9 = .ok (.iconst 1, 1) := by decide +kernel
theorem dX8_isHatted_10 : decode cX8_isHatted 10 = .ok (.goto 4, 3) := by decide +kernel
theorem dX8_isHatted_13 : decode cX8_isHatted 13 = .ok (.iconst 0, 1) := by decide +kernel
theorem dX8_isHatted_14 : decode cX8_isHatted 14 = .ok (.ireturn, 1) := by decide +kernel
theorem dX8_isUnder_0 : decode cX8_isUnder 0 = .ok (.iconst 2, 1) := by decide +kernel
theorem dX8_isUnder_1 : decode cX8_isUnder 1 = .ok (.aload_n 0, 1) := by decide +kernel
theorem dX8_isUnder_2 : decode cX8_isUnder 2 = .ok (.getfield 9, 3) := by decide +kernel
theorem dX8_isUnder_5 : decode cX8_isUnder 5 = .ok (.iadd, 1) := by decide +kernel
theorem dX8_isUnder_6 : decode cX8_isUnder 6 = .ok (.istore_n 2, 1) := by decide +kernel
theorem dX8_isUnder_7 : decode cX8_isUnder 7 = .ok (.iconst 0, 1) := by decide +kernel
theorem dX8_isUnder_8 : decode cX8_isUnder 8 = .ok (.istore_n 3, 1) := by decide +kernel
theorem dX8_isUnder_9 : decode cX8_isUnder 9 = .ok (.iload_n 3, 1) := by decide +kernel
theorem dX8_isUnder_10 : decode cX8_isUnder 10 = .ok (.getstatic 35, 3) := by decide +kernel
theorem dX8_isUnder_13 : decode cX8_isUnder 13 = .ok (.arraylength, 1) := by decide +kernel
theorem dX8_isUnder_14 : decode cX8_isUnder 14 = .ok (.if_icmp .ge 34, 3) := by decide +kernel
theorem dX8_isUnder_17 : decode cX8_isUnder 17 = .ok (.iload_n 2, 1) := by decide +kernel
theorem dX8_isUnder_18 : decode cX8_isUnder 18 = .ok (.ifCond .lt 30, 3) := by decide +kernel
theorem dX8_isUnder_21 : decode cX8_isUnder 21 = .ok (.iload_n 2, 1) := by decide +kernel
theorem dX8_isUnder_22 : decode cX8_isUnder 22 = .ok (.getstatic 35, 3) := by decide +kernel
theorem dX8_isUnder_25 : decode cX8_isUnder 25 = .ok (.arraylength, 1) := by decide +kernel
theorem dX8_isUnder_26 : decode cX8_isUnder 26 = .ok (.if_icmp .ge 22, 3) := by decide +kernel
theorem dX8_isUnder_29 : decode cX8_isUnder 29 = .ok (.iload_n 2, 1) := by decide +kernel
theorem dX8_isUnder_30 : decode cX8_isUnder 30 = .ok (.iload_n 1, 1) := by decide +kernel
theorem dX8_isUnder_31 : decode cX8_isUnder 31 = .ok (.if_icmp .ne 5, 3) := by decide +kernel
theorem dX8_isUnder_34 : decode cX8_isUnder 34 = .ok (.iconst 1, 1) := by decide +kernel
theorem dX8_isUnder_35 : decode cX8_isUnder 35 = .ok (.ireturn, 1) := by decide +kernel
theorem dX8_isUnder_36 : decode cX8_isUnder 36 = .ok (.getstatic 35, 3) := by decide +kernel
theorem dX8_isUnder_39 : decode cX8_isUnder 39 = .ok (.iload_n 2, 1) := by decide +kernel
theorem dX8_isUnder_40 : decode cX8_isUnder 40 = .ok (.iaload, 1) := by decide +kernel
theorem dX8_isUnder_41 : decode cX8_isUnder 41 = .ok (.istore_n 2, 1) := by decide +kernel
theorem dX8_isUnder_42 : decode cX8_isUnder 42 = .ok (.iinc 3 1, 3) := by decide +kernel
theorem dX8_isUnder_45 : decode cX8_isUnder 45 = .ok (.goto (-36), 3) := by decide +kernel
theorem dX8_isUnder_48 : decode cX8_isUnder 48 = .ok (.iconst 0, 1) := by decide +kernel
theorem dX8_isUnder_49 : decode cX8_isUnder 49 = .ok (.ireturn, 1) := by decide +kernel
theorem dX10_init_0 : decode cX10_init 0 = .ok (.aload_n 0, 1) := by decide +kernel
theorem dX10_init_1 : decode cX10_init 1 = .ok (.invokespecial 3, 3) := by decide +kernel
theorem dX10_init_4 : decode cX10_init 4 = .ok (.aload_n 0, 1) := by decide +kernel
theorem dX10_init_5 : decode cX10_init 5 = .ok (.new 9, 3) := by decide +kernel
theorem dX10_init_8 : decode cX10_init 8 = .ok (.dup, 1) := by decide +kernel
theorem dX10_init_9 : decode cX10_init 9 = .ok (.invokespecial 11, 3) := by decide +kernel
theorem dX10_init_12 : decode cX10_init 12 = .ok (.putfield 12, 3) := by decide +kernel
theorem dX10_init_15 : decode cX10_init 15 = .ok (.aload_n 0, 1) := by decide +kernel
theorem dX10_init_16 : decode cX10_init 16 = .ok (.new 16, 3) := by decide +kernel
theorem dX10_init_19 : decode cX10_init 19 = .ok (.dup, 1) := by decide +kernel
theorem dX10_init_20 : decode cX10_init 20 = .ok (.invokespecial 18, 3) := by decide +kernel
theorem dX10_init_23 : decode cX10_init 23 = .ok (.putfield 19, 3) := by decide +kernel
theorem dX10_init_26 : decode cX10_init 26 = .ok (.aload_n 0, 1) := by decide +kernel
theorem dX10_init_27 : decode cX10_init 27 = .ok (.new 23, 3) := by decide +kernel
theorem dX10_init_30 : decode cX10_init 30 = .ok (.dup, 1) := by decide +kernel
theorem dX10_init_31 : decode cX10_init 31 = .ok (.aload_n 0, 1) := by decide +kernel
theorem dX10_init_32 : decode cX10_init 32 = .ok (.getfield 12, 3) := by decide +kernel
theorem dX10_init_35 : decode cX10_init 35 = .ok (.aload_n 0, 1) := by decide +kernel
theorem dX10_init_36 : decode cX10_init 36 = .ok (.getfield 19, 3) := by decide +kernel
theorem dX10_init_39 : decode cX10_init 39 = .ok (.invokespecial 25, 3) := by decide +kernel
theorem dX10_init_42 : decode cX10_init 42 = .ok (.putfield 28, 3) := by decide +kernel
theorem dX10_init_45 : decode cX10_init 45 = .ok (.aload_n 0, 1) := by decide +kernel
theorem dX10_init_46 : decode cX10_init 46 = .ok (.new 32, 3) := by decide +kernel
theorem dX10_init_49 : decode cX10_init 49 = .ok (.dup, 1) := by decide +kernel
theorem dX10_init_50 : decode cX10_init 50 = .ok (.aload_n 0, 1) := by decide +kernel
theorem dX10_init_51 : decode cX10_init 51 = .ok (.getfield 19, 3) := by decide +kernel
theorem dX10_init_54 : decode cX10_init 54 = .ok (.invokespecial 34, 3) := by decide +kernel
theorem dX10_init_57 : decode cX10_init 57 = .ok (.putfield 37, 3) := by decide +kernel
theorem dX10_init_60 : decode cX10_init 60 = .ok (.aload_n 0, 1) := by decide +kernel
theorem dX10_init_61 : decode cX10_init 61 = .ok (.new 41, 3) := by decide +kernel
theorem dX10_init_64 : decode cX10_init 64 = .ok (.dup, 1) := by decide +kernel
theorem dX10_init_65 : decode cX10_init 65 = .ok (.aload_n 0, 1) := by decide +kernel
theorem dX10_init_66 : decode cX10_init 66 = .ok (.getfield 19, 3) := by decide +kernel
theorem dX10_init_69 : decode cX10_init 69 = .ok (.invokespecial 43, 3) := by decide +kernel
theorem dX10_init_72 : decode cX10_init 72 = .ok (.putfield 44, 3) := by decide +kernel
theorem dX10_init_75 : decode cX10_init 75 = .ok (.aload_n 0, 1) := by decide +kernel
theorem dX10_init_76 : decode cX10_init 76 = .ok (.iconst 2, 1) := by decide +kernel
theorem dX10_init_77 : decode cX10_init 77 = .ok (.anewarray 48, 3) := by decide +kernel
theorem dX10_init_80 : decode cX10_init 80 = .ok (.putfield 50, 3) := by decide +kernel
theorem dX10_init_83 : decode cX10_init 83 = .ok (.aload_n 0, 1) := by decide +kernel
theorem dX10_init_84 : decode cX10_init 84 = .ok (.bipush 12, 2) := by decide +kernel
theorem dX10_init_86 : decode cX10_init 86 = .ok (.newarray .int, 2) := by decide +kernel
theorem dX10_init_88 : decode cX10_init 88 = .ok (.putfield 54, 3) := by decide +kernel
theorem dX10_init_91 : decode cX10_init 91 = .ok (.aload_n 0, 1) := by decide +kernel
theorem dX10_init_92 : decode cX10_init 92 = .ok (.iconst 0, 1) := by decide +kernel
theorem dX10_init_93 : decode cX10_init 93 = .ok (.putfield 58, 3) := by decide +kernel
theorem dX10_init_96 : decode cX10_init 96 = .ok (.iconst 0, 1) := by decide +kernel
theorem dX10_init_97 : decode cX10_init 97 = .ok (.istore_n 1, 1) := by decide +kernel
theorem dX10_init_98 : decode cX10_init 98 = .ok (.iload_n 1, 1) := by decide +kernel
theorem dX10_init_99 : decode cX10_init 99 = .ok (.iconst 2, 1) := by decide +kernel
theorem dX10_init_100 : decode cX10_init 100 = .ok (.if_icmp .ge 22, 3) := by decide +kernel
theorem dX10_init_103 : decode cX10_init 103 = .ok (.aload_n 0, 1) := by decide +kernel
theorem dX10_init_104 : decode cX10_init 104 = .ok (.getfield 50, 3) := by decide +kernel
theorem dX10_init_107 : decode cX10_init 107 = .ok (.iload_n 1, 1) := by decide +kernel
theorem dX10_init_108 : decode cX10_init 108 = .ok (.new 48, 3) := by decide +kernel
theorem dX10_init_111 : decode cX10_init 111 = .ok (.dup, 1) := by decide +kernel
theorem dX10_init_112 : decode cX10_init 112 = .ok (.invokespecial 62, 3) := by decide +kernel
theorem dX10_init_115 : decode cX10_init 115 = .ok (.aastore, 1) := by decide +kernel
theorem dX10_init_116 : decode cX10_init 116 = .ok (.iinc 1 1, 3) := by decide +kernel
theorem dX10_init_119 : decode cX10_init 119 = .ok (.goto (-21), 3) := by decide +kernel
theorem dX10_init_122 : decode cX10_init 122 = .ok (.return_, 1) := by decide +kernel
theorem dX10_write_0 : decode cX10_write 0 = .ok (.iload_n 3, 1) := by decide +kernel
theorem dX10_write_1 : decode cX10_write 1 = .ok (.iconst 1, 1) := by decide +kernel
theorem dX10_write_2 : decode cX10_write 2 = .ok (.if_icmp .lt 9, 3) := by decide +kernel
theorem dX10_write_5 : decode cX10_write 5 = .ok (.iload_n 3, 1) := by decide +kernel
theorem dX10_write_6 : decode cX10_write 6 = .ok (.bipush 8, 2) := by decide +kernel
theorem dX10_write_8 : decode cX10_write 8 = .ok (.if_icmp .le 6, 3) := by decide +kernel
theorem dX10_write_11 : decode cX10_write 11 = .ok (.bipush (-3), 2) := by decide +kernel
theorem dX10_write_13 : decode cX10_write 13 = .ok (.ireturn, 1) := by decide +kernel
theorem dX10_write_14 : decode cX10_write 14 = .ok (.aload_n 0, 1) := by decide +kernel
theorem dX10_write_15 : decode cX10_write 15 = .ok (.getfield 12, 3) := by decide +kernel
theorem dX10_write_18 : decode cX10_write 18 = .ok (.getfield 63, 3) := by decide +kernel
theorem dX10_write_21 : decode cX10_write 21 = .ok (.iload_n 3, 1) := by decide +kernel
theorem dX10_write_22 : decode cX10_write 22 = .ok (.iadd, 1) := by decide +kernel
theorem dX10_write_23 : decode cX10_write 23 = .ok (.sipush 200, 3) := by decide +kernel
theorem dX10_write_26 : decode cX10_write 26 = .ok (.if_icmp .le 6, 3) := by decide +kernel
theorem dX10_write_29 : decode cX10_write 29 = .ok (.bipush (-5), 2) := by decide +kernel
theorem dX10_write_31 : decode cX10_write 31 = .ok (.ireturn, 1) := by decide +kernel
theorem dX10_write_32 : decode cX10_write 32 = .ok (.iconst 0, 1) := by decide +kernel
theorem dX10_write_33 : decode cX10_write 33 = .ok (.istore 4, 2) := by decide +kernel
theorem dX10_write_35 : decode cX10_write 35 = .ok (.iload 4, 2) := by decide +kernel
theorem dX10_write_37 : decode cX10_write 37 = .ok (.iload_n 3, 1) := by decide +kernel
theorem dX10_write_38 : decode cX10_write 38 = .ok (.if_icmp .ge 28, 3) := by decide +kernel
theorem dX10_write_41 : decode cX10_write 41 = .ok (.aload_n 0, 1) := by decide +kernel
theorem dX10_write_42 : decode cX10_write 42 = .ok (.getfield 12, 3) := by decide +kernel
theorem dX10_write_45 : decode cX10_write 45 = .ok (.lload_n 1, 1) := by decide +kernel
theorem dX10_write_46 : decode cX10_write 46 = .ok (.bipush 8, 2) := by decide +kernel
theorem dX10_write_48 : decode cX10_write 48 = .ok (.iload 4, 2) := by decide +kernel
theorem dX10_write_50 : decode cX10_write 50 = .ok (.imul, 1) := by decide +kernel
theorem dX10_write_51 : decode cX10_write 51 = .ok (.lshr, 1) := by decide +kernel
theorem dX10_write_52 : decode cX10_write 52 = .ok (.ldc2_w 66, 3) := by decide +kernel
theorem dX10_write_55 : decode cX10_write 55 = .ok (.land, 1) := by decide +kernel
theorem dX10_write_56 : decode cX10_write 56 = .ok (.l2i, 1) := by decide +kernel
theorem dX10_write_57 : decode cX10_write 57 = .ok (.invokevirtual 68, 3) := by decide +kernel
theorem dX10_write_60 : decode cX10_write 60 = .ok (.iinc 4 1, 3) := by decide +kernel
theorem dX10_write_63 : decode cX10_write 63 = .ok (.goto (-28), 3) := by decide +kernel
theorem dX10_write_66 : decode cX10_write 66 = .ok (.aload_n 0, 1) := by decide +kernel
theorem dX10_write_67 : decode cX10_write 67 = .ok (.getfield 12, 3) := by decide +kernel
theorem dX10_write_70 : decode cX10_write 70 = .ok (.getfield 63, 3) := by decide +kernel
theorem dX10_write_73 : decode cX10_write 73 = .ok (.ireturn, 1) := by decide +kernel
theorem dX10_erase_0 : decode cX10_erase 0 = .ok (.aload_n 0, 1) := by decide +kernel
theorem dX10_erase_1 : decode cX10_erase 1 = .ok (.getfield 12, 3) := by decide +kernel
theorem dX10_erase_4 : decode cX10_erase 4 = .ok (.invokevirtual 72, 3) := by decide +kernel
theorem dX10_erase_7 : decode cX10_erase 7 = .ok (.ireturn, 1) := by decide +kernel
theorem dX10_fault_0 : decode cX10_fault 0 = .ok (.aload_n 0, 1) := by decide +kernel
theorem dX10_fault_1 : decode cX10_fault 1 = .ok (.getfield 28, 3) := by decide +kernel
theorem dX10_fault_4 : decode cX10_fault 4 = .ok (.invokevirtual 76, 3) := by decide +kernel
theorem dX10_fault_7 : decode cX10_fault 7 = .ok (.aload_n 0, 1) := by decide +kernel
theorem dX10_fault_8 : decode cX10_fault 8 = .ok (.getfield 28, 3) := by decide +kernel
theorem dX10_fault_11 : decode cX10_fault 11 = .ok (.getfield 79, 3) := by decide +kernel
theorem dX10_fault_14 : decode cX10_fault 14 = .ok (.ireturn, 1) := by decide +kernel
theorem dX10_shore_0 : decode cX10_shore 0 = .ok (.aload_n 0, 1) := by decide +kernel
theorem dX10_shore_1 : decode cX10_shore 1 = .ok (.getfield 28, 3) := by decide +kernel
theorem dX10_shore_4 : decode cX10_shore 4 = .ok (.invokevirtual 76, 3) := by decide +kernel
theorem dX10_shore_7 : decode cX10_shore 7 = .ok (.aload_n 0, 1) := by decide +kernel
theorem dX10_shore_8 : decode cX10_shore 8 = .ok (.getfield 28, 3) := by decide +kernel
theorem dX10_shore_11 : decode cX10_shore 11 = .ok (.getfield 79, 3) := by decide +kernel
theorem dX10_shore_14 : decode cX10_shore 14 = .ok (.iconst (-1), 1) := by decide +kernel
theorem dX10_shore_15 : decode cX10_shore 15 = .ok (.if_icmp .eq 6, 3) := by decide +kernel
theorem dX10_shore_18 : decode cX10_shore 18 = .ok (.bipush (-4), 2) := by decide +kernel
theorem dX10_shore_20 : decode cX10_shore 20 = .ok (.ireturn, 1) := by decide +kernel
theorem dX10_shore_21 : decode cX10_shore 21 = .ok (.iconst 0, 1) := by decide +kernel
theorem dX10_shore_22 : decode cX10_shore 22 = .ok (.istore_n 1, 1) := by decide +kernel
theorem dX10_shore_23 : decode cX10_shore 23 = .ok (.iload_n 1, 1) := by decide +kernel
theorem dX10_shore_24 : decode cX10_shore 24 = .ok (.aload_n 0, 1) := by decide +kernel
theorem dX10_shore_25 : decode cX10_shore 25 = .ok (.getfield 28, 3) := by decide +kernel
theorem dX10_shore_28 : decode cX10_shore 28 = .ok (.getfield 82, 3) := by decide +kernel
theorem dX10_shore_31 : decode cX10_shore 31 = .ok (.if_icmp .ge 31, 3) := by decide +kernel
theorem dX10_shore_34 : decode cX10_shore 34 = .ok (.iload_n 1, 1) := by decide +kernel
theorem dX10_shore_35 : decode cX10_shore 35 = .ok (.bipush 12, 2) := by decide +kernel
theorem dX10_shore_37 : decode cX10_shore 37 = .ok (.if_icmp .ge 25, 3) := by decide +kernel
theorem dX10_shore_40 : decode cX10_shore 40 = .ok (.aload_n 0, 1) := by decide +kernel
theorem dX10_shore_41 : decode cX10_shore 41 = .ok (.getfield 19, 3) := by decide +kernel
theorem dX10_shore_44 : decode cX10_shore 44 = .ok (.aload_n 0, 1) := by decide +kernel
theorem dX10_shore_45 : decode cX10_shore 45 = .ok (.getfield 28, 3) := by decide +kernel
theorem dX10_shore_48 : decode cX10_shore 48 = .ok (.getfield 85, 3) := by decide +kernel
theorem dX10_shore_51 : decode cX10_shore 51 = .ok (.iload_n 1, 1) := by decide +kernel
theorem dX10_shore_52 : decode cX10_shore 52 = .ok (.aaload, 1) := by decide +kernel
theorem dX10_shore_53 : decode cX10_shore 53 = .ok (.invokevirtual 89, 3) := by decide +kernel
theorem dX10_shore_56 : decode cX10_shore 56 = .ok (.iinc 1 1, 3) := by decide +kernel
theorem dX10_shore_59 : decode cX10_shore 59 = .ok (.goto (-36), 3) := by decide +kernel
theorem dX10_shore_62 : decode cX10_shore 62 = .ok (.aload_n 0, 1) := by decide +kernel
theorem dX10_shore_63 : decode cX10_shore 63 = .ok (.getfield 19, 3) := by decide +kernel
theorem dX10_shore_66 : decode cX10_shore 66 = .ok (.invokevirtual 93, 3) := by decide +kernel
theorem dX10_shore_69 : decode cX10_shore 69 = .ok (.aload_n 0, 1) := by decide +kernel
theorem dX10_shore_70 : decode cX10_shore 70 = .ok (.iconst 0, 1) := by decide +kernel
theorem dX10_shore_71 : decode cX10_shore 71 = .ok (.putfield 58, 3) := by decide +kernel
theorem dX10_shore_74 : decode cX10_shore 74 = .ok (.iconst 0, 1) := by decide +kernel
theorem dX10_shore_75 : decode cX10_shore 75 = .ok (.istore_n 1, 1) := by decide +kernel
theorem dX10_shore_76 : decode cX10_shore 76 = .ok (.iload_n 1, 1) := by decide +kernel
theorem dX10_shore_77 : decode cX10_shore 77 = .ok (.iconst 2, 1) := by decide +kernel
theorem dX10_shore_78 : decode cX10_shore 78 = .ok (.if_icmp .ge 19, 3) := by decide +kernel
theorem dX10_shore_81 : decode cX10_shore 81 = .ok (.aload_n 0, 1) := by decide +kernel
theorem dX10_shore_82 : decode cX10_shore 82 = .ok (.getfield 50, 3) := by decide +kernel
theorem dX10_shore_85 : decode cX10_shore 85 = .ok (.iload_n 1, 1) := by decide +kernel
theorem dX10_shore_86 : decode cX10_shore 86 = .ok (.aaload, 1) := by decide +kernel
theorem dX10_shore_87 : decode cX10_shore 87 = .ok (.iconst 0, 1) := by decide +kernel
theorem dX10_shore_88 : decode cX10_shore 88 = .ok (.putfield 96, 3) := by decide +kernel
theorem dX10_shore_91 : decode cX10_shore 91 = .ok (.iinc 1 1, 3) := by decide +kernel
theorem dX10_shore_94 : decode cX10_shore 94 = .ok (.goto (-18), 3) := by decide +kernel
theorem dX10_shore_97 : decode cX10_shore 97 = .ok (.aload_n 0, 1) := by decide +kernel
theorem dX10_shore_98 : decode cX10_shore 98 = .ok (.getfield 12, 3) := by decide +kernel
theorem dX10_shore_101 : decode cX10_shore 101 = .ok (.invokevirtual 72, 3) := by decide +kernel
theorem dX10_shore_104 : decode cX10_shore 104 = .ok (.pop, 1) := by decide +kernel
theorem dX10_shore_105 : decode cX10_shore 105 = .ok (.aload_n 0, 1) := by decide +kernel
theorem dX10_shore_106 : decode cX10_shore 106 = .ok (.getfield 28, 3) := by decide +kernel
theorem dX10_shore_109 : decode cX10_shore 109 = .ok (.getfield 82, 3) := by decide +kernel
theorem dX10_shore_112 : decode cX10_shore 112 = .ok (.ireturn, 1) := by decide +kernel
theorem dX10_thing_0 : decode cX10_thing 0 = .ok (.aload_n 0, 1) := by decide +kernel
theorem dX10_thing_1 : decode cX10_thing 1 = .ok (.getfield 19, 3) := by decide +kernel
theorem dX10_thing_4 : decode cX10_thing 4 = .ok (.iload_n 1, 1) := by decide +kernel
theorem dX10_thing_5 : decode cX10_thing 5 = .ok (.invokevirtual 100, 3) := by decide +kernel
theorem dX10_thing_8 : decode cX10_thing 8 = .ok (.ifCond .ne 6, 3) := by decide +kernel
theorem dX10_thing_11 : decode cX10_thing 11 = .ok (.bipush (-2), 2) := by decide +kernel
theorem dX10_thing_13 : decode cX10_thing 13 = .ok (.ireturn, 1) := by decide +kernel
theorem dX10_thing_14 : decode cX10_thing 14 = .ok (.aload_n 0, 1) := by decide +kernel
theorem dX10_thing_15 : decode cX10_thing 15 = .ok (.getfield 19, 3) := by decide +kernel
theorem dX10_thing_18 : decode cX10_thing 18 = .ok (.getfield 104, 3) := by decide +kernel
theorem dX10_thing_21 : decode cX10_thing 21 = .ok (.iload_n 1, 1) := by decide +kernel
theorem dX10_thing_22 : decode cX10_thing 22 = .ok (.aaload, 1) := by decide +kernel
theorem dX10_thing_23 : decode cX10_thing 23 = .ok (.astore_n 3, 1) := by decide +kernel
theorem dX10_thing_24 : decode cX10_thing 24 = .ok (.iload_n 2, 1) := by decide +kernel
theorem dX10_thing_25 : decode cX10_thing 25 = .ok (.tableswitch 123 0 7 #[47, 52, 57, 72, 77, 94, 99, 112], 47) := by decide +kernel
theorem dX10_thing_72 : decode cX10_thing 72 = .ok (.aload_n 3, 1) := by decide +kernel
theorem dX10_thing_73 : decode cX10_thing 73 = .ok (.getfield 108, 3) := by decide +kernel
theorem dX10_thing_76 : decode cX10_thing 76 = .ok (.ireturn, 1) := by decide +kernel
theorem dX10_thing_77 : decode cX10_thing 77 = .ok (.aload_n 3, 1) := by decide +kernel
theorem dX10_thing_78 : decode cX10_thing 78 = .ok (.getfield 113, 3) := by decide +kernel
theorem dX10_thing_81 : decode cX10_thing 81 = .ok (.ireturn, 1) := by decide +kernel
theorem dX10_thing_82 : decode cX10_thing 82 = .ok (.aload_n 0, 1) := by decide +kernel
theorem dX10_thing_83 : decode cX10_thing 83 = .ok (.getfield 19, 3) := by decide +kernel
theorem dX10_thing_86 : decode cX10_thing 86 = .ok (.getfield 116, 3) := by decide +kernel
theorem dX10_thing_89 : decode cX10_thing 89 = .ok (.getfield 120, 3) := by decide +kernel
theorem dX10_thing_92 : decode cX10_thing 92 = .ok (.iload_n 1, 1) := by decide +kernel
theorem dX10_thing_93 : decode cX10_thing 93 = .ok (.ishr, 1) := by decide +kernel
theorem dX10_thing_94 : decode cX10_thing 94 = .ok (.iconst 1, 1) := by decide +kernel
theorem dX10_thing_95 : decode cX10_thing 95 = .ok (.iand, 1) := by decide +kernel
theorem dX10_thing_96 : decode cX10_thing 96 = .ok (.ireturn, 1) := by decide +kernel
theorem dX10_thing_97 : decode cX10_thing 97 = .ok (.aload_n 3, 1) := by decide +kernel
theorem dX10_thing_98 : decode cX10_thing 98 = .ok (.getfield 123, 3) := by decide +kernel
theorem dX10_thing_101 : decode cX10_thing 101 = .ok (.ireturn, 1) := by decide +kernel
theorem dX10_thing_102 : decode cX10_thing 102 = .ok (.aload_n 0, 1) := by decide +kernel
theorem dX10_thing_103 : decode cX10_thing 103 = .ok (.getfield 19, 3) := by decide +kernel
theorem dX10_thing_106 : decode cX10_thing 106 = .ok (.iload_n 1, 1) := by decide +kernel
theorem dX10_thing_107 : decode cX10_thing 107 = .ok (.invokevirtual 126, 3) := by decide +kernel
theorem dX10_thing_110 : decode cX10_thing 110 = .ok (.ifCond .eq 7, 3) := by decide +kernel
theorem dX10_thing_113 : decode cX10_thing 113 = .ok (.iconst 1, 1) := by decide +kernel
theorem dX10_thing_114 : decode cX10_thing 114 = .ok (.goto 4, 3) := by decide +kernel
theorem dX10_thing_117 : decode cX10_thing 117 = .ok (.iconst 0, 1) := by decide +kernel
theorem dX10_thing_118 : decode cX10_thing 118 = .ok (.ireturn, 1) := by decide +kernel
theorem dX10_thing_119 : decode cX10_thing 119 = .ok (.aload_n 3, 1) := by decide +kernel
theorem dX10_thing_120 : decode cX10_thing 120 = .ok (.getfield 129, 3) := by decide +kernel
theorem dX10_thing_123 : decode cX10_thing 123 = .ok (.ireturn, 1) := by decide +kernel
theorem dX10_thing_124 : decode cX10_thing 124 = .ok (.aload_n 3, 1) := by decide +kernel
theorem dX10_thing_125 : decode cX10_thing 125 = .ok (.getfield 132, 3) := by decide +kernel
theorem dX10_thing_128 : decode cX10_thing 128 = .ok (.ifCond .eq 7, 3) := by decide +kernel
theorem dX10_thing_131 : decode cX10_thing 131 = .ok (.iconst 1, 1) := by decide +kernel
theorem dX10_thing_132 : decode cX10_thing 132 = .ok (.goto 4, 3) := by decide +kernel
theorem dX10_thing_135 : decode cX10_thing 135 = .ok (.iconst 0, 1) := by decide +kernel
theorem dX10_thing_136 : decode cX10_thing 136 = .ok (.ireturn, 1) := by decide +kernel
theorem dX10_thing_137 : decode cX10_thing 137 = .ok (.aload_n 0, 1) := by decide +kernel
theorem dX10_thing_138 : decode cX10_thing 138 = .ok (.getfield 19, 3) := by decide +kernel
theorem dX10_thing_141 : decode cX10_thing 141 = .ok (.iconst 1, 1) := by decide +kernel
theorem dX10_thing_142 : decode cX10_thing 142 = .ok (.iload_n 1, 1) := by decide +kernel
theorem dX10_thing_143 : decode cX10_thing 143 = .ok (.ishl, 1) := by decide +kernel
theorem dX10_thing_144 : decode cX10_thing 144 = .ok (.invokevirtual 135, 3) := by decide +kernel
theorem dX10_thing_147 : decode cX10_thing 147 = .ok (.ireturn, 1) := by decide +kernel
theorem dX10_thing_148 : decode cX10_thing 148 = .ok (.bipush (-3), 2) := by decide +kernel
theorem dX10_thing_150 : decode cX10_thing 150 = .ok (.ireturn, 1) := by decide +kernel
theorem dX10_ferry_0 : decode cX10_ferry 0 = .ok (.aload_n 0, 1) := by decide +kernel
theorem dX10_ferry_1 : decode cX10_ferry 1 = .ok (.getfield 19, 3) := by decide +kernel
theorem dX10_ferry_4 : decode cX10_ferry 4 = .ok (.iload_n 1, 1) := by decide +kernel
theorem dX10_ferry_5 : decode cX10_ferry 5 = .ok (.invokevirtual 139, 3) := by decide +kernel
theorem dX10_ferry_8 : decode cX10_ferry 8 = .ok (.ifCond .ne 6, 3) := by decide +kernel
theorem dX10_ferry_11 : decode cX10_ferry 11 = .ok (.bipush (-2), 2) := by decide +kernel
theorem dX10_ferry_13 : decode cX10_ferry 13 = .ok (.ireturn, 1) := by decide +kernel
theorem dX10_ferry_14 : decode cX10_ferry 14 = .ok (.aload_n 0, 1) := by decide +kernel
theorem dX10_ferry_15 : decode cX10_ferry 15 = .ok (.getfield 19, 3) := by decide +kernel
theorem dX10_ferry_18 : decode cX10_ferry 18 = .ok (.getfield 142, 3) := by decide +kernel
theorem dX10_ferry_21 : decode cX10_ferry 21 = .ok (.iload_n 1, 1) := by decide +kernel
theorem dX10_ferry_22 : decode cX10_ferry 22 = .ok (.aaload, 1) := by decide +kernel
theorem dX10_ferry_23 : decode cX10_ferry 23 = .ok (.astore_n 3, 1) := by decide +kernel
theorem dX10_ferry_24 : decode cX10_ferry 24 = .ok (.iload_n 2, 1) := by decide +kernel
theorem dX10_ferry_25 : decode cX10_ferry 25 = .ok (.tableswitch 80 0 4 #[35, 40, 55, 70, 75], 35) := by decide +kernel
theorem dX10_ferry_60 : decode cX10_ferry 60 = .ok (.aload_n 3, 1) := by decide +kernel
theorem dX10_ferry_61 : decode cX10_ferry 61 = .ok (.getfield 146, 3) := by decide +kernel
theorem dX10_ferry_64 : decode cX10_ferry 64 = .ok (.ireturn, 1) := by decide +kernel
theorem dX10_ferry_65 : decode cX10_ferry 65 = .ok (.aload_n 3, 1) := by decide +kernel
theorem dX10_ferry_66 : decode cX10_ferry 66 = .ok (.aload_n 0, 1) := by decide +kernel
theorem dX10_ferry_67 : decode cX10_ferry 67 = .ok (.getfield 19, 3) := by decide +kernel
theorem dX10_ferry_70 : decode cX10_ferry 70 = .ok (.getfield 116, 3) := by decide +kernel
theorem dX10_ferry_73 : decode cX10_ferry 73 = .ok (.getfield 149, 3) := by decide +kernel
theorem dX10_ferry_76 : decode cX10_ferry 76 = .ok (.invokevirtual 152, 3) := by decide +kernel
theorem dX10_ferry_79 : decode cX10_ferry 79 = .ok (.ireturn, 1) := by decide +kernel
theorem dX10_ferry_80 : decode cX10_ferry 80 = .ok (.iload_n 1, 1) := by decide +kernel
theorem dX10_ferry_81 : decode cX10_ferry 81 = .ok (.aload_n 0, 1) := by decide +kernel
theorem dX10_ferry_82 : decode cX10_ferry 82 = .ok (.getfield 19, 3) := by decide +kernel
theorem dX10_ferry_85 : decode cX10_ferry 85 = .ok (.getfield 116, 3) := by decide +kernel
theorem dX10_ferry_88 : decode cX10_ferry 88 = .ok (.getfield 120, 3) := by decide +kernel
theorem dX10_ferry_91 : decode cX10_ferry 91 = .ok (.invokestatic 156, 3) := by decide +kernel
theorem dX10_ferry_94 : decode cX10_ferry 94 = .ok (.ireturn, 1) := by decide +kernel
theorem dX10_ferry_95 : decode cX10_ferry 95 = .ok (.aload_n 3, 1) := by decide +kernel
theorem dX10_ferry_96 : decode cX10_ferry 96 = .ok (.getfield 160, 3) := by decide +kernel
theorem dX10_ferry_99 : decode cX10_ferry 99 = .ok (.ireturn, 1) := by decide +kernel
theorem dX10_ferry_100 : decode cX10_ferry 100 = .ok (.aload_n 3, 1) := by decide +kernel
theorem dX10_ferry_101 : decode cX10_ferry 101 = .ok (.getfield 163, 3) := by decide +kernel
theorem dX10_ferry_104 : decode cX10_ferry 104 = .ok (.ireturn, 1) := by decide +kernel
theorem dX10_ferry_105 : decode cX10_ferry 105 = .ok (.bipush (-3), 2) := by decide +kernel
theorem dX10_ferry_107 : decode cX10_ferry 107 = .ok (.ireturn, 1) := by decide +kernel
theorem dX10_as_0 : decode cX10_as 0 = .ok (.aload_n 0, 1) := by decide +kernel
theorem dX10_as_1 : decode cX10_as 1 = .ok (.getfield 19, 3) := by decide +kernel
theorem dX10_as_4 : decode cX10_as 4 = .ok (.iload_n 1, 1) := by decide +kernel
theorem dX10_as_5 : decode cX10_as 5 = .ok (.invokevirtual 100, 3) := by decide +kernel
theorem dX10_as_8 : decode cX10_as 8 = .ok (.ifCond .ne 6, 3) := by decide +kernel
theorem dX10_as_11 : decode cX10_as 11 = .ok (.bipush (-2), 2) := by decide +kernel
theorem dX10_as_13 : decode cX10_as 13 = .ok (.ireturn, 1) := by decide +kernel
theorem dX10_as_14 : decode cX10_as 14 = .ok (.iload_n 2, 1) := by decide +kernel
theorem dX10_as_15 : decode cX10_as 15 = .ok (.ifCond .lt 11, 3) := by decide +kernel
theorem dX10_as_18 : decode cX10_as 18 = .ok (.iload_n 2, 1) := by decide +kernel
theorem dX10_as_19 : decode cX10_as 19 = .ok (.getstatic 166, 3) := by decide +kernel
theorem dX10_as_22 : decode cX10_as 22 = .ok (.arraylength, 1) := by decide +kernel
theorem dX10_as_23 : decode cX10_as 23 = .ok (.if_icmp .lt 6, 3) := by decide +kernel
theorem dX10_as_26 : decode cX10_as 26 = .ok (.bipush (-3), 2) := by decide +kernel
theorem dX10_as_28 : decode cX10_as 28 = .ok (.ireturn, 1) := by decide +kernel
theorem dX10_as_29 : decode cX10_as 29 = .ok (.aload_n 0, 1) := by decide +kernel
theorem dX10_as_30 : decode cX10_as 30 = .ok (.getfield 19, 3) := by decide +kernel
theorem dX10_as_33 : decode cX10_as 33 = .ok (.getfield 104, 3) := by decide +kernel
theorem dX10_as_36 : decode cX10_as 36 = .ok (.iload_n 1, 1) := by decide +kernel
theorem dX10_as_37 : decode cX10_as 37 = .ok (.aaload, 1) := by decide +kernel
theorem dX10_as_38 : decode cX10_as 38 = .ok (.iload_n 2, 1) := by decide +kernel
theorem dX10_as_39 : decode cX10_as 39 = .ok (.invokevirtual 169, 3) := by decide +kernel
theorem dX10_as_42 : decode cX10_as 42 = .ok (.ifCond .eq 16, 3) := by decide +kernel
theorem dX10_as_45 : decode cX10_as 45 = .ok (.aload_n 0, 1) := by decide +kernel
theorem dX10_as_46 : decode cX10_as 46 = .ok (.getfield 19, 3) := by decide +kernel
theorem dX10_as_49 : decode cX10_as 49 = .ok (.iconst 1, 1) := by decide +kernel
theorem dX10_as_50 : decode cX10_as 50 = .ok (.iload_n 1, 1) := by decide +kernel
theorem dX10_as_51 : decode cX10_as 51 = .ok (.ishl, 1) := by decide +kernel
theorem dX10_as_52 : decode cX10_as 52 = .ok (.invokevirtual 135, 3) := by decide +kernel
theorem dX10_as_55 : decode cX10_as 55 = .ok (.goto 5, 3) := by decide +kernel
theorem dX10_as_58 : decode cX10_as 58 = .ok (.bipush (-4), 2) := by decide +kernel
theorem dX10_as_60 : decode cX10_as 60 = .ok (.ireturn, 1) := by decide +kernel
theorem dX10_right_0 : decode cX10_right 0 = .ok (.aload_n 0, 1) := by decide +kernel
theorem dX10_right_1 : decode cX10_right 1 = .ok (.getfield 19, 3) := by decide +kernel
theorem dX10_right_4 : decode cX10_right 4 = .ok (.iload_n 1, 1) := by decide +kernel
theorem dX10_right_5 : decode cX10_right 5 = .ok (.invokevirtual 139, 3) := by decide +kernel
theorem dX10_right_8 : decode cX10_right 8 = .ok (.ifCond .eq 14, 3) := by decide +kernel
theorem dX10_right_11 : decode cX10_right 11 = .ok (.aload_n 0, 1) := by decide +kernel
theorem dX10_right_12 : decode cX10_right 12 = .ok (.getfield 19, 3) := by decide +kernel
theorem dX10_right_15 : decode cX10_right 15 = .ok (.iload_n 2, 1) := by decide +kernel
theorem dX10_right_16 : decode cX10_right 16 = .ok (.invokevirtual 172, 3) := by decide +kernel
theorem dX10_right_19 : decode cX10_right 19 = .ok (.ifCond .ne 6, 3) := by decide +kernel
theorem dX10_right_22 : decode cX10_right 22 = .ok (.bipush (-2), 2) := by decide +kernel
theorem dX10_right_24 : decode cX10_right 24 = .ok (.ireturn, 1) := by decide +kernel
theorem dX10_right_25 : decode cX10_right 25 = .ok (.aload_n 0, 1) := by decide +kernel
theorem dX10_right_26 : decode cX10_right 26 = .ok (.getfield 19, 3) := by decide +kernel
theorem dX10_right_29 : decode cX10_right 29 = .ok (.iload_n 1, 1) := by decide +kernel
theorem dX10_right_30 : decode cX10_right 30 = .ok (.iload_n 2, 1) := by decide +kernel
theorem dX10_right_31 : decode cX10_right 31 = .ok (.aload_n 0, 1) := by decide +kernel
theorem dX10_right_32 : decode cX10_right 32 = .ok (.getfield 19, 3) := by decide +kernel
theorem dX10_right_35 : decode cX10_right 35 = .ok (.getfield 116, 3) := by decide +kernel
theorem dX10_right_38 : decode cX10_right 38 = .ok (.getfield 120, 3) := by decide +kernel
theorem dX10_right_41 : decode cX10_right 41 = .ok (.invokevirtual 175, 3) := by decide +kernel
theorem dX10_right_44 : decode cX10_right 44 = .ok (.ifCond .eq 7, 3) := by decide +kernel
theorem dX10_right_47 : decode cX10_right 47 = .ok (.iconst 1, 1) := by decide +kernel
theorem dX10_right_48 : decode cX10_right 48 = .ok (.goto 4, 3) := by decide +kernel
theorem dX10_right_51 : decode cX10_right 51 = .ok (.iconst 0, 1) := by decide +kernel
theorem dX10_right_52 : decode cX10_right 52 = .ok (.ireturn, 1) := by decide +kernel
theorem dX10_cross_0 : decode cX10_cross 0 = .ok (.aload_n 0, 1) := by decide +kernel
theorem dX10_cross_1 : decode cX10_cross 1 = .ok (.getfield 19, 3) := by decide +kernel
theorem dX10_cross_4 : decode cX10_cross 4 = .ok (.iload_n 1, 1) := by decide +kernel
theorem dX10_cross_5 : decode cX10_cross 5 = .ok (.invokevirtual 139, 3) := by decide +kernel
theorem dX10_cross_8 : decode cX10_cross 8 = .ok (.ifCond .eq 14, 3) := by decide +kernel
theorem dX10_cross_11 : decode cX10_cross 11 = .ok (.aload_n 0, 1) := by decide +kernel
theorem dX10_cross_12 : decode cX10_cross 12 = .ok (.getfield 19, 3) := by decide +kernel
theorem dX10_cross_15 : decode cX10_cross 15 = .ok (.iload_n 2, 1) := by decide +kernel
theorem dX10_cross_16 : decode cX10_cross 16 = .ok (.invokevirtual 172, 3) := by decide +kernel
theorem dX10_cross_19 : decode cX10_cross 19 = .ok (.ifCond .ne 6, 3) := by decide +kernel
theorem dX10_cross_22 : decode cX10_cross 22 = .ok (.bipush (-2), 2) := by decide +kernel
theorem dX10_cross_24 : decode cX10_cross 24 = .ok (.ireturn, 1) := by decide +kernel
theorem dX10_cross_25 : decode cX10_cross 25 = .ok (.aload_n 0, 1) := by decide +kernel
theorem dX10_cross_26 : decode cX10_cross 26 = .ok (.getfield 19, 3) := by decide +kernel
theorem dX10_cross_29 : decode cX10_cross 29 = .ok (.getfield 116, 3) := by decide +kernel
theorem dX10_cross_32 : decode cX10_cross 32 = .ok (.astore_n 3, 1) := by decide +kernel
theorem dX10_cross_33 : decode cX10_cross 33 = .ok (.aload_n 0, 1) := by decide +kernel
theorem dX10_cross_34 : decode cX10_cross 34 = .ok (.getfield 19, 3) := by decide +kernel
theorem dX10_cross_37 : decode cX10_cross 37 = .ok (.iload_n 1, 1) := by decide +kernel
theorem dX10_cross_38 : decode cX10_cross 38 = .ok (.iload_n 2, 1) := by decide +kernel
theorem dX10_cross_39 : decode cX10_cross 39 = .ok (.aload_n 3, 1) := by decide +kernel
theorem dX10_cross_40 : decode cX10_cross 40 = .ok (.getfield 120, 3) := by decide +kernel
theorem dX10_cross_43 : decode cX10_cross 43 = .ok (.invokevirtual 175, 3) := by decide +kernel
theorem dX10_cross_46 : decode cX10_cross 46 = .ok (.ifCond .ne 6, 3) := by decide +kernel
theorem dX10_cross_49 : decode cX10_cross 49 = .ok (.bipush (-4), 2) := by decide +kernel
theorem dX10_cross_51 : decode cX10_cross 51 = .ok (.ireturn, 1) := by decide +kernel
theorem dX10_cross_52 : decode cX10_cross 52 = .ok (.aload_n 3, 1) := by decide +kernel
theorem dX10_cross_53 : decode cX10_cross 53 = .ok (.aload_n 3, 1) := by decide +kernel
theorem dX10_cross_54 : decode cX10_cross 54 = .ok (.getfield 120, 3) := by decide +kernel
theorem dX10_cross_57 : decode cX10_cross 57 = .ok (.iload_n 1, 1) := by decide +kernel
theorem dX10_cross_58 : decode cX10_cross 58 = .ok (.iload_n 2, 1) := by decide +kernel
theorem dX10_cross_59 : decode cX10_cross 59 = .ok (.invokestatic 179, 3) := by decide +kernel
theorem dX10_cross_62 : decode cX10_cross 62 = .ok (.invokestatic 182, 3) := by decide +kernel
theorem dX10_cross_65 : decode cX10_cross 65 = .ok (.putfield 120, 3) := by decide +kernel
theorem dX10_cross_68 : decode cX10_cross 68 = .ok (.aload_n 3, 1) := by decide +kernel
theorem dX10_cross_69 : decode cX10_cross 69 = .ok (.dup, 1) := by decide +kernel
theorem dX10_cross_70 : decode cX10_cross 70 = .ok (.getfield 185, 3) := by decide +kernel
theorem dX10_cross_73 : decode cX10_cross 73 = .ok (.iconst 1, 1) := by decide +kernel
theorem dX10_cross_74 : decode cX10_cross 74 = .ok (.iadd, 1) := by decide +kernel
theorem dX10_cross_75 : decode cX10_cross 75 = .ok (.putfield 185, 3) := by decide +kernel
theorem dX10_cross_78 : decode cX10_cross 78 = .ok (.aload_n 3, 1) := by decide +kernel
theorem dX10_cross_79 : decode cX10_cross 79 = .ok (.getfield 185, 3) := by decide +kernel
theorem dX10_cross_82 : decode cX10_cross 82 = .ok (.ireturn, 1) := by decide +kernel
theorem dX10_doff_0 : decode cX10_doff 0 = .ok (.aload_n 0, 1) := by decide +kernel
theorem dX10_doff_1 : decode cX10_doff 1 = .ok (.getfield 19, 3) := by decide +kernel
theorem dX10_doff_4 : decode cX10_doff 4 = .ok (.iload_n 1, 1) := by decide +kernel
theorem dX10_doff_5 : decode cX10_doff 5 = .ok (.invokevirtual 100, 3) := by decide +kernel
theorem dX10_doff_8 : decode cX10_doff 8 = .ok (.ifCond .ne 6, 3) := by decide +kernel
theorem dX10_doff_11 : decode cX10_doff 11 = .ok (.bipush (-2), 2) := by decide +kernel
theorem dX10_doff_13 : decode cX10_doff 13 = .ok (.ireturn, 1) := by decide +kernel
theorem dX10_doff_14 : decode cX10_doff 14 = .ok (.aload_n 0, 1) := by decide +kernel
theorem dX10_doff_15 : decode cX10_doff 15 = .ok (.getfield 19, 3) := by decide +kernel
theorem dX10_doff_18 : decode cX10_doff 18 = .ok (.getfield 104, 3) := by decide +kernel
theorem dX10_doff_21 : decode cX10_doff 21 = .ok (.iload_n 1, 1) := by decide +kernel
theorem dX10_doff_22 : decode cX10_doff 22 = .ok (.aaload, 1) := by decide +kernel
theorem dX10_doff_23 : decode cX10_doff 23 = .ok (.invokevirtual 188, 3) := by decide +kernel
theorem dX10_doff_26 : decode cX10_doff 26 = .ok (.ifCond .ne 6, 3) := by decide +kernel
theorem dX10_doff_29 : decode cX10_doff 29 = .ok (.bipush (-4), 2) := by decide +kernel
theorem dX10_doff_31 : decode cX10_doff 31 = .ok (.ireturn, 1) := by decide +kernel
theorem dX10_doff_32 : decode cX10_doff 32 = .ok (.aload_n 0, 1) := by decide +kernel
theorem dX10_doff_33 : decode cX10_doff 33 = .ok (.getfield 19, 3) := by decide +kernel
theorem dX10_doff_36 : decode cX10_doff 36 = .ok (.iload_n 1, 1) := by decide +kernel
theorem dX10_doff_37 : decode cX10_doff 37 = .ok (.invokevirtual 192, 3) := by decide +kernel
theorem dX10_doff_40 : decode cX10_doff 40 = .ok (.aload_n 0, 1) := by decide +kernel
theorem dX10_doff_41 : decode cX10_doff 41 = .ok (.getfield 19, 3) := by decide +kernel
theorem dX10_doff_44 : decode cX10_doff 44 = .ok (.iconst 1, 1) := by decide +kernel
theorem dX10_doff_45 : decode cX10_doff 45 = .ok (.iload_n 1, 1) := by decide +kernel
theorem dX10_doff_46 : decode cX10_doff 46 = .ok (.ishl, 1) := by decide +kernel
theorem dX10_doff_47 : decode cX10_doff 47 = .ok (.invokevirtual 135, 3) := by decide +kernel
theorem dX10_doff_50 : decode cX10_doff 50 = .ok (.ireturn, 1) := by decide +kernel
theorem dX10_noon_0 : decode cX10_noon 0 = .ok (.aload_n 0, 1) := by decide +kernel
theorem dX10_noon_1 : decode cX10_noon 1 = .ok (.getfield 19, 3) := by decide +kernel
theorem dX10_noon_4 : decode cX10_noon 4 = .ok (.getfield 116, 3) := by decide +kernel
theorem dX10_noon_7 : decode cX10_noon 7 = .ok (.aload_n 0, 1) := by decide +kernel
theorem dX10_noon_8 : decode cX10_noon 8 = .ok (.getfield 19, 3) := by decide +kernel
theorem dX10_noon_11 : decode cX10_noon 11 = .ok (.getfield 116, 3) := by decide +kernel
theorem dX10_noon_14 : decode cX10_noon 14 = .ok (.getfield 149, 3) := by decide +kernel
theorem dX10_noon_17 : decode cX10_noon 17 = .ok (.ifCond .ne 7, 3) := by decide +kernel
theorem dX10_noon_20 : decode cX10_noon 20 = .ok (.iconst 1, 1) := by decide +kernel
theorem dX10_noon_21 : decode cX10_noon 21 = .ok (.goto 4, 3) := by decide +kernel
theorem dX10_noon_24 : decode cX10_noon 24 = .ok (.iconst 0, 1) := by decide +kernel
theorem dX10_noon_25 : decode cX10_noon 25 = .ok (.putfield 149, 3) := by decide +kernel
theorem dX10_noon_28 : decode cX10_noon 28 = .ok (.aload_n 0, 1) := by decide +kernel
theorem dX10_noon_29 : decode cX10_noon 29 = .ok (.getfield 19, 3) := by decide +kernel
theorem dX10_noon_32 : decode cX10_noon 32 = .ok (.getfield 116, 3) := by decide +kernel
theorem dX10_noon_35 : decode cX10_noon 35 = .ok (.getfield 149, 3) := by decide +kernel
theorem dX10_noon_38 : decode cX10_noon 38 = .ok (.ifCond .eq 7, 3) := by decide +kernel
theorem dX10_noon_41 : decode cX10_noon 41 = .ok (.iconst 1, 1) := by decide +kernel
theorem dX10_noon_42 : decode cX10_noon 42 = .ok (.goto 4, 3) := by decide +kernel
theorem dX10_noon_45 : decode cX10_noon 45 = .ok (.iconst 0, 1) := by decide +kernel
theorem dX10_noon_46 : decode cX10_noon 46 = .ok (.ireturn, 1) := by decide +kernel
theorem dX10_keep_0 : decode cX10_keep 0 = .ok (.iload_n 1, 1) := by decide +kernel
theorem dX10_keep_1 : decode cX10_keep 1 = .ok (.ifCond .lt 8, 3) := by decide +kernel
theorem dX10_keep_4 : decode cX10_keep 4 = .ok (.iload_n 1, 1) := by decide +kernel
theorem dX10_keep_5 : decode cX10_keep 5 = .ok (.iconst 2, 1) := by decide +kernel
theorem dX10_keep_6 : decode cX10_keep 6 = .ok (.if_icmp .lt 6, 3) := by decide +kernel
theorem dX10_keep_9 : decode cX10_keep 9 = .ok (.bipush (-2), 2) := by decide +kernel
theorem dX10_keep_11 : decode cX10_keep 11 = .ok (.ireturn, 1) := by decide +kernel
theorem dX10_keep_12 : decode cX10_keep 12 = .ok (.aload_n 0, 1) := by decide +kernel
theorem dX10_keep_13 : decode cX10_keep 13 = .ok (.getfield 50, 3) := by decide +kernel
theorem dX10_keep_16 : decode cX10_keep 16 = .ok (.iload_n 1, 1) := by decide +kernel
theorem dX10_keep_17 : decode cX10_keep 17 = .ok (.aaload, 1) := by decide +kernel
theorem dX10_keep_18 : decode cX10_keep 18 = .ok (.aload_n 0, 1) := by decide +kernel
theorem dX10_keep_19 : decode cX10_keep 19 = .ok (.getfield 19, 3) := by decide +kernel
theorem dX10_keep_22 : decode cX10_keep 22 = .ok (.getfield 116, 3) := by decide +kernel
theorem dX10_keep_25 : decode cX10_keep 25 = .ok (.invokevirtual 195, 3) := by decide +kernel
theorem dX10_keep_28 : decode cX10_keep 28 = .ok (.aload_n 0, 1) := by decide +kernel
theorem dX10_keep_29 : decode cX10_keep 29 = .ok (.getfield 50, 3) := by decide +kernel
theorem dX10_keep_32 : decode cX10_keep 32 = .ok (.iload_n 1, 1) := by decide +kernel
theorem dX10_keep_33 : decode cX10_keep 33 = .ok (.aaload, 1) := by decide +kernel
theorem dX10_keep_34 : decode cX10_keep 34 = .ok (.iconst 1, 1) := by decide +kernel
theorem dX10_keep_35 : decode cX10_keep 35 = .ok (.putfield 96, 3) := by decide +kernel
theorem dX10_keep_38 : decode cX10_keep 38 = .ok (.aload_n 0, 1) := by decide +kernel
theorem dX10_keep_39 : decode cX10_keep 39 = .ok (.getfield 19, 3) := by decide +kernel
theorem dX10_keep_42 : decode cX10_keep 42 = .ok (.getfield 116, 3) := by decide +kernel
theorem dX10_keep_45 : decode cX10_keep 45 = .ok (.getfield 185, 3) := by decide +kernel
theorem dX10_keep_48 : decode cX10_keep 48 = .ok (.ireturn, 1) := by decide +kernel
theorem dX10_back_0 : decode cX10_back 0 = .ok (.iload_n 1, 1) := by decide +kernel
theorem dX10_back_1 : decode cX10_back 1 = .ok (.ifCond .lt 8, 3) := by decide +kernel
theorem dX10_back_4 : decode cX10_back 4 = .ok (.iload_n 1, 1) := by decide +kernel
theorem dX10_back_5 : decode cX10_back 5 = .ok (.iconst 2, 1) := by decide +kernel
theorem dX10_back_6 : decode cX10_back 6 = .ok (.if_icmp .lt 6, 3) := by decide +kernel
theorem dX10_back_9 : decode cX10_back 9 = .ok (.bipush (-2), 2) := by decide +kernel
theorem dX10_back_11 : decode cX10_back 11 = .ok (.ireturn, 1) := by decide +kernel
theorem dX10_back_12 : decode cX10_back 12 = .ok (.aload_n 0, 1) := by decide +kernel
theorem dX10_back_13 : decode cX10_back 13 = .ok (.getfield 50, 3) := by decide +kernel
theorem dX10_back_16 : decode cX10_back 16 = .ok (.iload_n 1, 1) := by decide +kernel
theorem dX10_back_17 : decode cX10_back 17 = .ok (.aaload, 1) := by decide +kernel
theorem dX10_back_18 : decode cX10_back 18 = .ok (.getfield 96, 3) := by decide +kernel
theorem dX10_back_21 : decode cX10_back 21 = .ok (.ifCond .ne 6, 3) := by decide +kernel
theorem dX10_back_24 : decode cX10_back 24 = .ok (.bipush (-4), 2) := by decide +kernel
theorem dX10_back_26 : decode cX10_back 26 = .ok (.ireturn, 1) := by decide +kernel
theorem dX10_back_27 : decode cX10_back 27 = .ok (.aload_n 0, 1) := by decide +kernel
theorem dX10_back_28 : decode cX10_back 28 = .ok (.getfield 19, 3) := by decide +kernel
theorem dX10_back_31 : decode cX10_back 31 = .ok (.aload_n 0, 1) := by decide +kernel
theorem dX10_back_32 : decode cX10_back 32 = .ok (.getfield 50, 3) := by decide +kernel
theorem dX10_back_35 : decode cX10_back 35 = .ok (.iload_n 1, 1) := by decide +kernel
theorem dX10_back_36 : decode cX10_back 36 = .ok (.aaload, 1) := by decide +kernel
theorem dX10_back_37 : decode cX10_back 37 = .ok (.invokevirtual 199, 3) := by decide +kernel
theorem dX10_back_40 : decode cX10_back 40 = .ok (.aload_n 0, 1) := by decide +kernel
theorem dX10_back_41 : decode cX10_back 41 = .ok (.getfield 19, 3) := by decide +kernel
theorem dX10_back_44 : decode cX10_back 44 = .ok (.getfield 116, 3) := by decide +kernel
theorem dX10_back_47 : decode cX10_back 47 = .ok (.getfield 185, 3) := by decide +kernel
theorem dX10_back_50 : decode cX10_back 50 = .ok (.ireturn, 1) := by decide +kernel
theorem dX10_loads_0 : decode cX10_loads 0 = .ok (.aload_n 0, 1) := by decide +kernel
theorem dX10_loads_1 : decode cX10_loads 1 = .ok (.getfield 19, 3) := by decide +kernel
theorem dX10_loads_4 : decode cX10_loads 4 = .ok (.iload_n 1, 1) := by decide +kernel
theorem dX10_loads_5 : decode cX10_loads 5 = .ok (.invokevirtual 139, 3) := by decide +kernel
theorem dX10_loads_8 : decode cX10_loads 8 = .ok (.ifCond .ne 6, 3) := by decide +kernel
theorem dX10_loads_11 : decode cX10_loads 11 = .ok (.bipush (-2), 2) := by decide +kernel
theorem dX10_loads_13 : decode cX10_loads 13 = .ok (.ireturn, 1) := by decide +kernel
theorem dX10_loads_14 : decode cX10_loads 14 = .ok (.iload_n 2, 1) := by decide +kernel
theorem dX10_loads_15 : decode cX10_loads 15 = .ok (.ifCond .lt 8, 3) := by decide +kernel
theorem dX10_loads_18 : decode cX10_loads 18 = .ok (.iload_n 2, 1) := by decide +kernel
theorem dX10_loads_19 : decode cX10_loads 19 = .ok (.iconst 3, 1) := by decide +kernel
theorem dX10_loads_20 : decode cX10_loads 20 = .ok (.if_icmp .le 6, 3) := by decide +kernel
theorem dX10_loads_23 : decode cX10_loads 23 = .ok (.bipush (-3), 2) := by decide +kernel
theorem dX10_loads_25 : decode cX10_loads 25 = .ok (.ireturn, 1) := by decide +kernel
theorem dX10_loads_26 : decode cX10_loads 26 = .ok (.aload_n 0, 1) := by decide +kernel
theorem dX10_loads_27 : decode cX10_loads 27 = .ok (.getfield 37, 3) := by decide +kernel
theorem dX10_loads_30 : decode cX10_loads 30 = .ok (.iload_n 1, 1) := by decide +kernel
theorem dX10_loads_31 : decode cX10_loads 31 = .ok (.iconst 0, 1) := by decide +kernel
theorem dX10_loads_32 : decode cX10_loads 32 = .ok (.iconst 0, 1) := by decide +kernel
theorem dX10_loads_33 : decode cX10_loads 33 = .ok (.invokevirtual 202, 3) := by decide +kernel
theorem dX10_loads_36 : decode cX10_loads 36 = .ok (.iload_n 2, 1) := by decide +kernel
theorem dX10_loads_37 : decode cX10_loads 37 = .ok (.tableswitch 51 0 2 #[27, 35, 43], 27) := by decide +kernel
theorem dX10_loads_64 : decode cX10_loads 64 = .ok (.aload_n 0, 1) := by decide +kernel
theorem dX10_loads_65 : decode cX10_loads 65 = .ok (.getfield 37, 3) := by decide +kernel
theorem dX10_loads_68 : decode cX10_loads 68 = .ok (.getfield 206, 3) := by decide +kernel
theorem dX10_loads_71 : decode cX10_loads 71 = .ok (.ireturn, 1) := by decide +kernel
theorem dX10_loads_72 : decode cX10_loads 72 = .ok (.aload_n 0, 1) := by decide +kernel
theorem dX10_loads_73 : decode cX10_loads 73 = .ok (.getfield 37, 3) := by decide +kernel
theorem dX10_loads_76 : decode cX10_loads 76 = .ok (.getfield 209, 3) := by decide +kernel
theorem dX10_loads_79 : decode cX10_loads 79 = .ok (.ireturn, 1) := by decide +kernel
theorem dX10_loads_80 : decode cX10_loads 80 = .ok (.aload_n 0, 1) := by decide +kernel
theorem dX10_loads_81 : decode cX10_loads 81 = .ok (.getfield 37, 3) := by decide +kernel
theorem dX10_loads_84 : decode cX10_loads 84 = .ok (.getfield 212, 3) := by decide +kernel
theorem dX10_loads_87 : decode cX10_loads 87 = .ok (.ireturn, 1) := by decide +kernel
theorem dX10_loads_88 : decode cX10_loads 88 = .ok (.aload_n 0, 1) := by decide +kernel
theorem dX10_loads_89 : decode cX10_loads 89 = .ok (.getfield 37, 3) := by decide +kernel
theorem dX10_loads_92 : decode cX10_loads 92 = .ok (.getfield 215, 3) := by decide +kernel
theorem dX10_loads_95 : decode cX10_loads 95 = .ok (.ireturn, 1) := by decide +kernel
theorem dX10_weighed_0 : decode cX10_weighed 0 = .ok (.iload_n 1, 1) := by decide +kernel
theorem dX10_weighed_1 : decode cX10_weighed 1 = .ok (.invokestatic 218, 3) := by decide +kernel
theorem dX10_weighed_4 : decode cX10_weighed 4 = .ok (.ifCond .ne 6, 3) := by decide +kernel
theorem dX10_weighed_7 : decode cX10_weighed 7 = .ok (.bipush (-2), 2) := by decide +kernel
theorem dX10_weighed_9 : decode cX10_weighed 9 = .ok (.ireturn, 1) := by decide +kernel
theorem dX10_weighed_10 : decode cX10_weighed 10 = .ok (.iload_n 2, 1) := by decide +kernel
theorem dX10_weighed_11 : decode cX10_weighed 11 = .ok (.iconst 1, 1) := by decide +kernel
theorem dX10_weighed_12 : decode cX10_weighed 12 = .ok (.if_icmp .lt 10, 3) := by decide +kernel
theorem dX10_weighed_15 : decode cX10_weighed 15 = .ok (.iload_n 2, 1) := by decide +kernel
theorem dX10_weighed_16 : decode cX10_weighed 16 = .ok (.sipush 999, 3) := by decide +kernel
theorem dX10_weighed_19 : decode cX10_weighed 19 = .ok (.if_icmp .le 6, 3) := by decide +kernel
theorem dX10_weighed_22 : decode cX10_weighed 22 = .ok (.bipush (-3), 2) := by decide +kernel
theorem dX10_weighed_24 : decode cX10_weighed 24 = .ok (.ireturn, 1) := by decide +kernel
theorem dX10_weighed_25 : decode cX10_weighed 25 = .ok (.iconst 0, 1) := by decide +kernel
theorem dX10_weighed_26 : decode cX10_weighed 26 = .ok (.istore_n 3, 1) := by decide +kernel
theorem dX10_weighed_27 : decode cX10_weighed 27 = .ok (.iconst 1, 1) := by decide +kernel
theorem dX10_weighed_28 : decode cX10_weighed 28 = .ok (.istore 4, 2) := by decide +kernel
theorem dX10_weighed_30 : decode cX10_weighed 30 = .ok (.iload 4, 2) := by decide +kernel
theorem dX10_weighed_32 : decode cX10_weighed 32 = .ok (.iconst 1, 1) := by decide +kernel
theorem dX10_weighed_33 : decode cX10_weighed 33 = .ok (.aload_n 0, 1) := by decide +kernel
theorem dX10_weighed_34 : decode cX10_weighed 34 = .ok (.getfield 19, 3) := by decide +kernel
theorem dX10_weighed_37 : decode cX10_weighed 37 = .ok (.getfield 221, 3) := by decide +kernel
theorem dX10_weighed_40 : decode cX10_weighed 40 = .ok (.ishl, 1) := by decide +kernel
theorem dX10_weighed_41 : decode cX10_weighed 41 = .ok (.if_icmp .ge 44, 3) := by decide +kernel
theorem dX10_weighed_44 : decode cX10_weighed 44 = .ok (.iload_n 1, 1) := by decide +kernel
theorem dX10_weighed_45 : decode cX10_weighed 45 = .ok (.iload 4, 2) := by decide +kernel
theorem dX10_weighed_47 : decode cX10_weighed 47 = .ok (.aload_n 0, 1) := by decide +kernel
theorem dX10_weighed_48 : decode cX10_weighed 48 = .ok (.getfield 19, 3) := by decide +kernel
theorem dX10_weighed_51 : decode cX10_weighed 51 = .ok (.getfield 116, 3) := by decide +kernel
theorem dX10_weighed_54 : decode cX10_weighed 54 = .ok (.getfield 120, 3) := by decide +kernel
theorem dX10_weighed_57 : decode cX10_weighed 57 = .ok (.invokestatic 224, 3) := by decide +kernel
theorem dX10_weighed_60 : decode cX10_weighed 60 = .ok (.ifCond .eq 19, 3) := by decide +kernel
theorem dX10_weighed_63 : decode cX10_weighed 63 = .ok (.aload_n 0, 1) := by decide +kernel
theorem dX10_weighed_64 : decode cX10_weighed 64 = .ok (.getfield 19, 3) := by decide +kernel
theorem dX10_weighed_67 : decode cX10_weighed 67 = .ok (.iload 4, 2) := by decide +kernel
theorem dX10_weighed_69 : decode cX10_weighed 69 = .ok (.invokevirtual 135, 3) := by decide +kernel
theorem dX10_weighed_72 : decode cX10_weighed 72 = .ok (.iload_n 2, 1) := by decide +kernel
theorem dX10_weighed_73 : decode cX10_weighed 73 = .ok (.if_icmp .ne 6, 3) := by decide +kernel
theorem dX10_weighed_76 : decode cX10_weighed 76 = .ok (.iinc 3 1, 3) := by decide +kernel
theorem dX10_weighed_79 : decode cX10_weighed 79 = .ok (.iinc 4 1, 3) := by decide +kernel
theorem dX10_weighed_82 : decode cX10_weighed 82 = .ok (.goto (-52), 3) := by decide +kernel
theorem dX10_weighed_85 : decode cX10_weighed 85 = .ok (.iload_n 3, 1) := by decide +kernel
theorem dX10_weighed_86 : decode cX10_weighed 86 = .ok (.ireturn, 1) := by decide +kernel
theorem dX10_hats_0 : decode cX10_hats 0 = .ok (.aload_n 0, 1) := by decide +kernel
theorem dX10_hats_1 : decode cX10_hats 1 = .ok (.getfield 19, 3) := by decide +kernel
theorem dX10_hats_4 : decode cX10_hats 4 = .ok (.iload_n 1, 1) := by decide +kernel
theorem dX10_hats_5 : decode cX10_hats 5 = .ok (.invokevirtual 139, 3) := by decide +kernel
theorem dX10_hats_8 : decode cX10_hats 8 = .ok (.ifCond .eq 14, 3) := by decide +kernel
theorem dX10_hats_11 : decode cX10_hats 11 = .ok (.aload_n 0, 1) := by decide +kernel
theorem dX10_hats_12 : decode cX10_hats 12 = .ok (.getfield 19, 3) := by decide +kernel
theorem dX10_hats_15 : decode cX10_hats 15 = .ok (.iload_n 2, 1) := by decide +kernel
theorem dX10_hats_16 : decode cX10_hats 16 = .ok (.invokevirtual 172, 3) := by decide +kernel
theorem dX10_hats_19 : decode cX10_hats 19 = .ok (.ifCond .ne 6, 3) := by decide +kernel
theorem dX10_hats_22 : decode cX10_hats 22 = .ok (.bipush (-2), 2) := by decide +kernel
theorem dX10_hats_24 : decode cX10_hats 24 = .ok (.ireturn, 1) := by decide +kernel
theorem dX10_hats_25 : decode cX10_hats 25 = .ok (.iload_n 3, 1) := by decide +kernel
theorem dX10_hats_26 : decode cX10_hats 26 = .ok (.ifCond .lt 8, 3) := by decide +kernel
theorem dX10_hats_29 : decode cX10_hats 29 = .ok (.iload_n 3, 1) := by decide +kernel
theorem dX10_hats_30 : decode cX10_hats 30 = .ok (.iconst 1, 1) := by decide +kernel
theorem dX10_hats_31 : decode cX10_hats 31 = .ok (.if_icmp .le 6, 3) := by decide +kernel
theorem dX10_hats_34 : decode cX10_hats 34 = .ok (.bipush (-3), 2) := by decide +kernel
theorem dX10_hats_36 : decode cX10_hats 36 = .ok (.ireturn, 1) := by decide +kernel
theorem dX10_hats_37 : decode cX10_hats 37 = .ok (.aload_n 0, 1) := by decide +kernel
theorem dX10_hats_38 : decode cX10_hats 38 = .ok (.getfield 19, 3) := by decide +kernel
theorem dX10_hats_41 : decode cX10_hats 41 = .ok (.iload_n 1, 1) := by decide +kernel
theorem dX10_hats_42 : decode cX10_hats 42 = .ok (.iload_n 2, 1) := by decide +kernel
theorem dX10_hats_43 : decode cX10_hats 43 = .ok (.invokevirtual 227, 3) := by decide +kernel
theorem dX10_hats_46 : decode cX10_hats 46 = .ok (.istore 4, 2) := by decide +kernel
theorem dX10_hats_48 : decode cX10_hats 48 = .ok (.iload 4, 2) := by decide +kernel
theorem dX10_hats_50 : decode cX10_hats 50 = .ok (.iconst (-1), 1) := by decide +kernel
theorem dX10_hats_51 : decode cX10_hats 51 = .ok (.if_icmp .eq 8, 3) := by decide +kernel
theorem dX10_hats_54 : decode cX10_hats 54 = .ok (.iload_n 3, 1) := by decide +kernel
theorem dX10_hats_55 : decode cX10_hats 55 = .ok (.iconst 1, 1) := by decide +kernel
theorem dX10_hats_56 : decode cX10_hats 56 = .ok (.if_icmp .ne 6, 3) := by decide +kernel
theorem dX10_hats_59 : decode cX10_hats 59 = .ok (.iload 4, 2) := by decide +kernel
theorem dX10_hats_61 : decode cX10_hats 61 = .ok (.ireturn, 1) := by decide +kernel
theorem dX10_hats_62 : decode cX10_hats 62 = .ok (.iload 4, 2) := by decide +kernel
theorem dX10_hats_64 : decode cX10_hats 64 = .ok (.invokestatic 230, 3) := by decide +kernel
theorem dX10_hats_67 : decode cX10_hats 67 = .ok (.ireturn, 1) := by decide +kernel
theorem dX10_stones_0 : decode cX10_stones 0 = .ok (.aload_n 0, 1) := by decide +kernel
theorem dX10_stones_1 : decode cX10_stones 1 = .ok (.getfield 19, 3) := by decide +kernel
theorem dX10_stones_4 : decode cX10_stones 4 = .ok (.iload_n 1, 1) := by decide +kernel
theorem dX10_stones_5 : decode cX10_stones 5 = .ok (.invokevirtual 139, 3) := by decide +kernel
theorem dX10_stones_8 : decode cX10_stones 8 = .ok (.ifCond .eq 14, 3) := by decide +kernel
theorem dX10_stones_11 : decode cX10_stones 11 = .ok (.aload_n 0, 1) := by decide +kernel
theorem dX10_stones_12 : decode cX10_stones 12 = .ok (.getfield 19, 3) := by decide +kernel
theorem dX10_stones_15 : decode cX10_stones 15 = .ok (.iload_n 2, 1) := by decide +kernel
theorem dX10_stones_16 : decode cX10_stones 16 = .ok (.invokevirtual 172, 3) := by decide +kernel
theorem dX10_stones_19 : decode cX10_stones 19 = .ok (.ifCond .ne 6, 3) := by decide +kernel
theorem dX10_stones_22 : decode cX10_stones 22 = .ok (.bipush (-2), 2) := by decide +kernel
theorem dX10_stones_24 : decode cX10_stones 24 = .ok (.ireturn, 1) := by decide +kernel
theorem dX10_stones_25 : decode cX10_stones 25 = .ok (.iload_n 3, 1) := by decide +kernel
theorem dX10_stones_26 : decode cX10_stones 26 = .ok (.iconst 1, 1) := by decide +kernel
theorem dX10_stones_27 : decode cX10_stones 27 = .ok (.if_icmp .lt 9, 3) := by decide +kernel
theorem dX10_stones_30 : decode cX10_stones 30 = .ok (.iload_n 3, 1) := by decide +kernel
theorem dX10_stones_31 : decode cX10_stones 31 = .ok (.bipush 99, 2) := by decide +kernel
theorem dX10_stones_33 : decode cX10_stones 33 = .ok (.if_icmp .le 6, 3) := by decide +kernel
theorem dX10_stones_36 : decode cX10_stones 36 = .ok (.bipush (-3), 2) := by decide +kernel
theorem dX10_stones_38 : decode cX10_stones 38 = .ok (.ireturn, 1) := by decide +kernel
theorem dX10_stones_39 : decode cX10_stones 39 = .ok (.aload_n 0, 1) := by decide +kernel
theorem dX10_stones_40 : decode cX10_stones 40 = .ok (.getfield 19, 3) := by decide +kernel
theorem dX10_stones_43 : decode cX10_stones 43 = .ok (.iload_n 1, 1) := by decide +kernel
theorem dX10_stones_44 : decode cX10_stones 44 = .ok (.iload_n 2, 1) := by decide +kernel
theorem dX10_stones_45 : decode cX10_stones 45 = .ok (.iload_n 3, 1) := by decide +kernel
theorem dX10_stones_46 : decode cX10_stones 46 = .ok (.invokevirtual 235, 3) := by decide +kernel
theorem dX10_stones_49 : decode cX10_stones 49 = .ok (.ireturn, 1) := by decide +kernel
theorem dX10_sure_0 : decode cX10_sure 0 = .ok (.aload_n 0, 1) := by decide +kernel
theorem dX10_sure_1 : decode cX10_sure 1 = .ok (.getfield 19, 3) := by decide +kernel
theorem dX10_sure_4 : decode cX10_sure 4 = .ok (.iload_n 1, 1) := by decide +kernel
theorem dX10_sure_5 : decode cX10_sure 5 = .ok (.invokevirtual 139, 3) := by decide +kernel
theorem dX10_sure_8 : decode cX10_sure 8 = .ok (.ifCond .ne 6, 3) := by decide +kernel
theorem dX10_sure_11 : decode cX10_sure 11 = .ok (.bipush (-2), 2) := by decide +kernel
theorem dX10_sure_13 : decode cX10_sure 13 = .ok (.ireturn, 1) := by decide +kernel
theorem dX10_sure_14 : decode cX10_sure 14 = .ok (.aload_n 0, 1) := by decide +kernel
theorem dX10_sure_15 : decode cX10_sure 15 = .ok (.getfield 37, 3) := by decide +kernel
theorem dX10_sure_18 : decode cX10_sure 18 = .ok (.iload_n 1, 1) := by decide +kernel
theorem dX10_sure_19 : decode cX10_sure 19 = .ok (.iconst 0, 1) := by decide +kernel
theorem dX10_sure_20 : decode cX10_sure 20 = .ok (.iconst 0, 1) := by decide +kernel
theorem dX10_sure_21 : decode cX10_sure 21 = .ok (.invokevirtual 202, 3) := by decide +kernel
theorem dX10_sure_24 : decode cX10_sure 24 = .ok (.aload_n 0, 1) := by decide +kernel
theorem dX10_sure_25 : decode cX10_sure 25 = .ok (.getfield 37, 3) := by decide +kernel
theorem dX10_sure_28 : decode cX10_sure 28 = .ok (.getfield 239, 3) := by decide +kernel
theorem dX10_sure_31 : decode cX10_sure 31 = .ok (.ireturn, 1) := by decide +kernel
theorem dX10_aboard_0 : decode cX10_aboard 0 = .ok (.aload_n 0, 1) := by decide +kernel
theorem dX10_aboard_1 : decode cX10_aboard 1 = .ok (.getfield 19, 3) := by decide +kernel
theorem dX10_aboard_4 : decode cX10_aboard 4 = .ok (.iload_n 1, 1) := by decide +kernel
theorem dX10_aboard_5 : decode cX10_aboard 5 = .ok (.invokevirtual 139, 3) := by decide +kernel
theorem dX10_aboard_8 : decode cX10_aboard 8 = .ok (.ifCond .eq 25, 3) := by decide +kernel
theorem dX10_aboard_11 : decode cX10_aboard 11 = .ok (.aload_n 0, 1) := by decide +kernel
theorem dX10_aboard_12 : decode cX10_aboard 12 = .ok (.getfield 19, 3) := by decide +kernel
theorem dX10_aboard_15 : decode cX10_aboard 15 = .ok (.iload_n 2, 1) := by decide +kernel
theorem dX10_aboard_16 : decode cX10_aboard 16 = .ok (.invokevirtual 172, 3) := by decide +kernel
theorem dX10_aboard_19 : decode cX10_aboard 19 = .ok (.ifCond .eq 14, 3) := by decide +kernel
theorem dX10_aboard_22 : decode cX10_aboard 22 = .ok (.aload_n 0, 1) := by decide +kernel
theorem dX10_aboard_23 : decode cX10_aboard 23 = .ok (.getfield 19, 3) := by decide +kernel
theorem dX10_aboard_26 : decode cX10_aboard 26 = .ok (.iload_n 3, 1) := by decide +kernel
theorem dX10_aboard_27 : decode cX10_aboard 27 = .ok (.invokevirtual 172, 3) := by decide +kernel
theorem dX10_aboard_30 : decode cX10_aboard 30 = .ok (.ifCond .ne 6, 3) := by decide +kernel
theorem dX10_aboard_33 : decode cX10_aboard 33 = .ok (.bipush (-2), 2) := by decide +kernel
theorem dX10_aboard_35 : decode cX10_aboard 35 = .ok (.ireturn, 1) := by decide +kernel
theorem dX10_aboard_36 : decode cX10_aboard 36 = .ok (.iload 4, 2) := by decide +kernel
theorem dX10_aboard_38 : decode cX10_aboard 38 = .ok (.ifCond .lt 9, 3) := by decide +kernel
theorem dX10_aboard_41 : decode cX10_aboard 41 = .ok (.iload 4, 2) := by decide +kernel
theorem dX10_aboard_43 : decode cX10_aboard 43 = .ok (.iconst 2, 1) := by decide +kernel
theorem dX10_aboard_44 : decode cX10_aboard 44 = .ok (.if_icmp .le 6, 3) := by decide +kernel
theorem dX10_aboard_47 : decode cX10_aboard 47 = .ok (.bipush (-3), 2) := by decide +kernel
theorem dX10_aboard_49 : decode cX10_aboard 49 = .ok (.ireturn, 1) := by decide +kernel
theorem dX10_aboard_50 : decode cX10_aboard 50 = .ok (.aload_n 0, 1) := by decide +kernel
theorem dX10_aboard_51 : decode cX10_aboard 51 = .ok (.getfield 37, 3) := by decide +kernel
theorem dX10_aboard_54 : decode cX10_aboard 54 = .ok (.iload_n 1, 1) := by decide +kernel
theorem dX10_aboard_55 : decode cX10_aboard 55 = .ok (.iload_n 2, 1) := by decide +kernel
theorem dX10_aboard_56 : decode cX10_aboard 56 = .ok (.iload_n 3, 1) := by decide +kernel
theorem dX10_aboard_57 : decode cX10_aboard 57 = .ok (.invokevirtual 202, 3) := by decide +kernel
theorem dX10_aboard_60 : decode cX10_aboard 60 = .ok (.iload 4, 2) := by decide +kernel
theorem dX10_aboard_62 : decode cX10_aboard 62 = .ok (.lookupswitch 42 #[(0, 26), (1, 34)], 26) := by decide +kernel
theorem dX10_aboard_88 : decode cX10_aboard 88 = .ok (.aload_n 0, 1) := by decide +kernel
theorem dX10_aboard_89 : decode cX10_aboard 89 = .ok (.getfield 37, 3) := by decide +kernel
theorem dX10_aboard_92 : decode cX10_aboard 92 = .ok (.getfield 206, 3) := by decide +kernel
theorem dX10_aboard_95 : decode cX10_aboard 95 = .ok (.ireturn, 1) := by decide +kernel
theorem dX10_aboard_96 : decode cX10_aboard 96 = .ok (.aload_n 0, 1) := by decide +kernel
theorem dX10_aboard_97 : decode cX10_aboard 97 = .ok (.getfield 37, 3) := by decide +kernel
theorem dX10_aboard_100 : decode cX10_aboard 100 = .ok (.getfield 242, 3) := by decide +kernel
theorem dX10_aboard_103 : decode cX10_aboard 103 = .ok (.ireturn, 1) := by decide +kernel
theorem dX10_aboard_104 : decode cX10_aboard 104 = .ok (.aload_n 0, 1) := by decide +kernel
theorem dX10_aboard_105 : decode cX10_aboard 105 = .ok (.getfield 37, 3) := by decide +kernel
theorem dX10_aboard_108 : decode cX10_aboard 108 = .ok (.getfield 245, 3) := by decide +kernel
theorem dX10_aboard_111 : decode cX10_aboard 111 = .ok (.ireturn, 1) := by decide +kernel
theorem dX10_fewest_0 : decode cX10_fewest 0 = .ok (.aload_n 0, 1) := by decide +kernel
theorem dX10_fewest_1 : decode cX10_fewest 1 = .ok (.getfield 19, 3) := by decide +kernel
theorem dX10_fewest_4 : decode cX10_fewest 4 = .ok (.iload_n 1, 1) := by decide +kernel
theorem dX10_fewest_5 : decode cX10_fewest 5 = .ok (.invokevirtual 172, 3) := by decide +kernel
theorem dX10_fewest_8 : decode cX10_fewest 8 = .ok (.ifCond .eq 10, 3) := by decide +kernel
theorem dX10_fewest_11 : decode cX10_fewest 11 = .ok (.iload_n 2, 1) := by decide +kernel
theorem dX10_fewest_12 : decode cX10_fewest 12 = .ok (.invokestatic 218, 3) := by decide +kernel
theorem dX10_fewest_15 : decode cX10_fewest 15 = .ok (.ifCond .ne 6, 3) := by decide +kernel
theorem dX10_fewest_18 : decode cX10_fewest 18 = .ok (.bipush (-2), 2) := by decide +kernel
theorem dX10_fewest_20 : decode cX10_fewest 20 = .ok (.ireturn, 1) := by decide +kernel
theorem dX10_fewest_21 : decode cX10_fewest 21 = .ok (.iload_n 3, 1) := by decide +kernel
theorem dX10_fewest_22 : decode cX10_fewest 22 = .ok (.iconst (-1), 1) := by decide +kernel
theorem dX10_fewest_23 : decode cX10_fewest 23 = .ok (.if_icmp .ge 6, 3) := by decide +kernel
theorem dX10_fewest_26 : decode cX10_fewest 26 = .ok (.bipush (-3), 2) := by decide +kernel
theorem dX10_fewest_28 : decode cX10_fewest 28 = .ok (.ireturn, 1) := by decide +kernel
theorem dX10_fewest_29 : decode cX10_fewest 29 = .ok (.aload_n 0, 1) := by decide +kernel
theorem dX10_fewest_30 : decode cX10_fewest 30 = .ok (.getfield 44, 3) := by decide +kernel
theorem dX10_fewest_33 : decode cX10_fewest 33 = .ok (.iload_n 1, 1) := by decide +kernel
theorem dX10_fewest_34 : decode cX10_fewest 34 = .ok (.iload_n 2, 1) := by decide +kernel
theorem dX10_fewest_35 : decode cX10_fewest 35 = .ok (.iconst 0, 1) := by decide +kernel
theorem dX10_fewest_36 : decode cX10_fewest 36 = .ok (.invokevirtual 248, 3) := by decide +kernel
theorem dX10_fewest_39 : decode cX10_fewest 39 = .ok (.istore 4, 2) := by decide +kernel
theorem dX10_fewest_41 : decode cX10_fewest 41 = .ok (.iload_n 3, 1) := by decide +kernel
theorem dX10_fewest_42 : decode cX10_fewest 42 = .ok (.iconst (-1), 1) := by decide +kernel
theorem dX10_fewest_43 : decode cX10_fewest 43 = .ok (.if_icmp .ne 15, 3) := by decide +kernel
theorem dX10_fewest_46 : decode cX10_fewest 46 = .ok (.aload_n 0, 1) := by decide +kernel
theorem dX10_fewest_47 : decode cX10_fewest 47 = .ok (.getfield 44, 3) := by decide +kernel
theorem dX10_fewest_50 : decode cX10_fewest 50 = .ok (.iload 4, 2) := by decide +kernel
theorem dX10_fewest_52 : decode cX10_fewest 52 = .ok (.invokevirtual 252, 3) := by decide +kernel
theorem dX10_fewest_55 : decode cX10_fewest 55 = .ok (.goto 13, 3) := by decide +kernel
theorem dX10_fewest_58 : decode cX10_fewest 58 = .ok (.aload_n 0, 1) := by decide +kernel
theorem dX10_fewest_59 : decode cX10_fewest 59 = .ok (.getfield 44, 3) := by decide +kernel
theorem dX10_fewest_62 : decode cX10_fewest 62 = .ok (.iload 4, 2) := by decide +kernel
theorem dX10_fewest_64 : decode cX10_fewest 64 = .ok (.iload_n 3, 1) := by decide +kernel
theorem dX10_fewest_65 : decode cX10_fewest 65 = .ok (.invokevirtual 255, 3) := by decide +kernel
theorem dX10_fewest_68 : decode cX10_fewest 68 = .ok (.ireturn, 1) := by decide +kernel
theorem dX10_soonest_0 : decode cX10_soonest 0 = .ok (.aload_n 0, 1) := by decide +kernel
theorem dX10_soonest_1 : decode cX10_soonest 1 = .ok (.getfield 19, 3) := by decide +kernel
theorem dX10_soonest_4 : decode cX10_soonest 4 = .ok (.iload_n 1, 1) := by decide +kernel
theorem dX10_soonest_5 : decode cX10_soonest 5 = .ok (.invokevirtual 172, 3) := by decide +kernel
theorem dX10_soonest_8 : decode cX10_soonest 8 = .ok (.ifCond .eq 10, 3) := by decide +kernel
theorem dX10_soonest_11 : decode cX10_soonest 11 = .ok (.iload_n 2, 1) := by decide +kernel
theorem dX10_soonest_12 : decode cX10_soonest 12 = .ok (.invokestatic 218, 3) := by decide +kernel
theorem dX10_soonest_15 : decode cX10_soonest 15 = .ok (.ifCond .ne 6, 3) := by decide +kernel
theorem dX10_soonest_18 : decode cX10_soonest 18 = .ok (.bipush (-2), 2) := by decide +kernel
theorem dX10_soonest_20 : decode cX10_soonest 20 = .ok (.ireturn, 1) := by decide +kernel
theorem dX10_soonest_21 : decode cX10_soonest 21 = .ok (.aload_n 0, 1) := by decide +kernel
theorem dX10_soonest_22 : decode cX10_soonest 22 = .ok (.getfield 44, 3) := by decide +kernel
theorem dX10_soonest_25 : decode cX10_soonest 25 = .ok (.aload_n 0, 1) := by decide +kernel
theorem dX10_soonest_26 : decode cX10_soonest 26 = .ok (.getfield 44, 3) := by decide +kernel
theorem dX10_soonest_29 : decode cX10_soonest 29 = .ok (.iload_n 1, 1) := by decide +kernel
theorem dX10_soonest_30 : decode cX10_soonest 30 = .ok (.iload_n 2, 1) := by decide +kernel
theorem dX10_soonest_31 : decode cX10_soonest 31 = .ok (.iconst 1, 1) := by decide +kernel
theorem dX10_soonest_32 : decode cX10_soonest 32 = .ok (.invokevirtual 248, 3) := by decide +kernel
theorem dX10_soonest_35 : decode cX10_soonest 35 = .ok (.invokevirtual 252, 3) := by decide +kernel
theorem dX10_soonest_38 : decode cX10_soonest 38 = .ok (.ireturn, 1) := by decide +kernel
theorem dX10_row_0 : decode cX10_row 0 = .ok (.aload_n 0, 1) := by decide +kernel
theorem dX10_row_1 : decode cX10_row 1 = .ok (.getfield 19, 3) := by decide +kernel
theorem dX10_row_4 : decode cX10_row 4 = .ok (.iload_n 1, 1) := by decide +kernel
theorem dX10_row_5 : decode cX10_row 5 = .ok (.invokevirtual 139, 3) := by decide +kernel
theorem dX10_row_8 : decode cX10_row 8 = .ok (.ifCond .eq 14, 3) := by decide +kernel
theorem dX10_row_11 : decode cX10_row 11 = .ok (.aload_n 0, 1) := by decide +kernel
theorem dX10_row_12 : decode cX10_row 12 = .ok (.getfield 19, 3) := by decide +kernel
theorem dX10_row_15 : decode cX10_row 15 = .ok (.iload_n 2, 1) := by decide +kernel
theorem dX10_row_16 : decode cX10_row 16 = .ok (.invokevirtual 172, 3) := by decide +kernel
theorem dX10_row_19 : decode cX10_row 19 = .ok (.ifCond .ne 6, 3) := by decide +kernel
theorem dX10_row_22 : decode cX10_row 22 = .ok (.bipush (-2), 2) := by decide +kernel
theorem dX10_row_24 : decode cX10_row 24 = .ok (.ireturn, 1) := by decide +kernel
theorem dX10_row_25 : decode cX10_row 25 = .ok (.aload_n 0, 1) := by decide +kernel
theorem dX10_row_26 : decode cX10_row 26 = .ok (.getfield 58, 3) := by decide +kernel
theorem dX10_row_29 : decode cX10_row 29 = .ok (.bipush 12, 2) := by decide +kernel
theorem dX10_row_31 : decode cX10_row 31 = .ok (.if_icmp .lt 6, 3) := by decide +kernel
theorem dX10_row_34 : decode cX10_row 34 = .ok (.bipush (-5), 2) := by decide +kernel
theorem dX10_row_36 : decode cX10_row 36 = .ok (.ireturn, 1) := by decide +kernel
theorem dX10_row_37 : decode cX10_row 37 = .ok (.aload_n 0, 1) := by decide +kernel
theorem dX10_row_38 : decode cX10_row 38 = .ok (.getfield 54, 3) := by decide +kernel
theorem dX10_row_41 : decode cX10_row 41 = .ok (.aload_n 0, 1) := by decide +kernel
theorem dX10_row_42 : decode cX10_row 42 = .ok (.getfield 58, 3) := by decide +kernel
theorem dX10_row_45 : decode cX10_row 45 = .ok (.iload_n 1, 1) := by decide +kernel
theorem dX10_row_46 : decode cX10_row 46 = .ok (.iload_n 2, 1) := by decide +kernel
theorem dX10_row_47 : decode cX10_row 47 = .ok (.invokestatic 179, 3) := by decide +kernel
theorem dX10_row_50 : decode cX10_row 50 = .ok (.iastore, 1) := by decide +kernel
theorem dX10_row_51 : decode cX10_row 51 = .ok (.aload_n 0, 1) := by decide +kernel
theorem dX10_row_52 : decode cX10_row 52 = .ok (.dup, 1) := by decide +kernel
theorem dX10_row_53 : decode cX10_row 53 = .ok (.getfield 58, 3) := by decide +kernel
theorem dX10_row_56 : decode cX10_row 56 = .ok (.iconst 1, 1) := by decide +kernel
theorem dX10_row_57 : decode cX10_row 57 = .ok (.iadd, 1) := by decide +kernel
theorem dX10_row_58 : decode cX10_row 58 = .ok (.putfield 58, 3) := by decide +kernel
theorem dX10_row_61 : decode cX10_row 61 = .ok (.aload_n 0, 1) := by decide +kernel
theorem dX10_row_62 : decode cX10_row 62 = .ok (.getfield 58, 3) := by decide +kernel
theorem dX10_row_65 : decode cX10_row 65 = .ok (.ireturn, 1) := by decide +kernel
theorem dX10_burn_0 : decode cX10_burn 0 = .ok (.aload_n 0, 1) := by decide +kernel
theorem dX10_burn_1 : decode cX10_burn 1 = .ok (.getfield 58, 3) := by decide +kernel
theorem dX10_burn_4 : decode cX10_burn 4 = .ok (.istore_n 1, 1) := by decide +kernel
theorem dX10_burn_5 : decode cX10_burn 5 = .ok (.aload_n 0, 1) := by decide +kernel
theorem dX10_burn_6 : decode cX10_burn 6 = .ok (.iconst 0, 1) := by decide +kernel
theorem dX10_burn_7 : decode cX10_burn 7 = .ok (.putfield 58, 3) := by decide +kernel
theorem dX10_burn_10 : decode cX10_burn 10 = .ok (.iload_n 1, 1) := by decide +kernel
theorem dX10_burn_11 : decode cX10_burn 11 = .ok (.ireturn, 1) := by decide +kernel
theorem dX10_judge_0 : decode cX10_judge 0 = .ok (.aload_n 0, 1) := by decide +kernel
theorem dX10_judge_1 : decode cX10_judge 1 = .ok (.getfield 19, 3) := by decide +kernel
theorem dX10_judge_4 : decode cX10_judge 4 = .ok (.getfield 116, 3) := by decide +kernel
theorem dX10_judge_7 : decode cX10_judge 7 = .ok (.getfield 120, 3) := by decide +kernel
theorem dX10_judge_10 : decode cX10_judge 10 = .ok (.istore_n 1, 1) := by decide +kernel
theorem dX10_judge_11 : decode cX10_judge 11 = .ok (.iconst 0, 1) := by decide +kernel
theorem dX10_judge_12 : decode cX10_judge 12 = .ok (.istore_n 2, 1) := by decide +kernel
theorem dX10_judge_13 : decode cX10_judge 13 = .ok (.iload_n 2, 1) := by decide +kernel
theorem dX10_judge_14 : decode cX10_judge 14 = .ok (.aload_n 0, 1) := by decide +kernel
theorem dX10_judge_15 : decode cX10_judge 15 = .ok (.getfield 58, 3) := by decide +kernel
theorem dX10_judge_18 : decode cX10_judge 18 = .ok (.if_icmp .ge 57, 3) := by decide +kernel
theorem dX10_judge_21 : decode cX10_judge 21 = .ok (.iload_n 2, 1) := by decide +kernel
theorem dX10_judge_22 : decode cX10_judge 22 = .ok (.bipush 12, 2) := by decide +kernel
theorem dX10_judge_24 : decode cX10_judge 24 = .ok (.if_icmp .ge 51, 3) := by decide +kernel
theorem dX10_judge_27 : decode cX10_judge 27 = .ok (.aload_n 0, 1) := by decide +kernel
theorem dX10_judge_28 : decode cX10_judge 28 = .ok (.getfield 19, 3) := by decide +kernel
theorem dX10_judge_31 : decode cX10_judge 31 = .ok (.aload_n 0, 1) := by decide +kernel
theorem dX10_judge_32 : decode cX10_judge 32 = .ok (.getfield 54, 3) := by decide +kernel
theorem dX10_judge_35 : decode cX10_judge 35 = .ok (.iload_n 2, 1) := by decide +kernel
theorem dX10_judge_36 : decode cX10_judge 36 = .ok (.iaload, 1) := by decide +kernel
theorem dX10_judge_37 : decode cX10_judge 37 = .ok (.invokestatic 258, 3) := by decide +kernel
theorem dX10_judge_40 : decode cX10_judge 40 = .ok (.aload_n 0, 1) := by decide +kernel
theorem dX10_judge_41 : decode cX10_judge 41 = .ok (.getfield 54, 3) := by decide +kernel
theorem dX10_judge_44 : decode cX10_judge 44 = .ok (.iload_n 2, 1) := by decide +kernel
theorem dX10_judge_45 : decode cX10_judge 45 = .ok (.iaload, 1) := by decide +kernel
theorem dX10_judge_46 : decode cX10_judge 46 = .ok (.invokestatic 261, 3) := by decide +kernel
theorem dX10_judge_49 : decode cX10_judge 49 = .ok (.iload_n 1, 1) := by decide +kernel
theorem dX10_judge_50 : decode cX10_judge 50 = .ok (.invokevirtual 175, 3) := by decide +kernel
theorem dX10_judge_53 : decode cX10_judge 53 = .ok (.ifCond .ne 5, 3) := by decide +kernel
theorem dX10_judge_56 : decode cX10_judge 56 = .ok (.iload_n 2, 1) := by decide +kernel
theorem dX10_judge_57 : decode cX10_judge 57 = .ok (.ireturn, 1) := by decide +kernel
theorem dX10_judge_58 : decode cX10_judge 58 = .ok (.iload_n 1, 1) := by decide +kernel
theorem dX10_judge_59 : decode cX10_judge 59 = .ok (.aload_n 0, 1) := by decide +kernel
theorem dX10_judge_60 : decode cX10_judge 60 = .ok (.getfield 54, 3) := by decide +kernel
theorem dX10_judge_63 : decode cX10_judge 63 = .ok (.iload_n 2, 1) := by decide +kernel
theorem dX10_judge_64 : decode cX10_judge 64 = .ok (.iaload, 1) := by decide +kernel
theorem dX10_judge_65 : decode cX10_judge 65 = .ok (.invokestatic 182, 3) := by decide +kernel
theorem dX10_judge_68 : decode cX10_judge 68 = .ok (.istore_n 1, 1) := by decide +kernel
theorem dX10_judge_69 : decode cX10_judge 69 = .ok (.iinc 2 1, 3) := by decide +kernel
theorem dX10_judge_72 : decode cX10_judge 72 = .ok (.goto (-59), 3) := by decide +kernel
theorem dX10_judge_75 : decode cX10_judge 75 = .ok (.iconst (-1), 1) := by decide +kernel
theorem dX10_judge_76 : decode cX10_judge 76 = .ok (.ireturn, 1) := by decide +kernel
theorem dX10_count_0 : decode cX10_count 0 = .ok (.iload_n 1, 1) := by decide +kernel
theorem dX10_count_1 : decode cX10_count 1 = .ok (.tableswitch 136 0 7 #[47, 55, 63, 78, 93, 104, 123, 128], 47) := by decide +kernel
theorem dX10_count_48 : decode cX10_count 48 = .ok (.aload_n 0, 1) := by decide +kernel
theorem dX10_count_49 : decode cX10_count 49 = .ok (.getfield 19, 3) := by decide +kernel
theorem dX10_count_52 : decode cX10_count 52 = .ok (.getfield 221, 3) := by decide +kernel
theorem dX10_count_55 : decode cX10_count 55 = .ok (.ireturn, 1) := by decide +kernel
theorem dX10_count_56 : decode cX10_count 56 = .ok (.aload_n 0, 1) := by decide +kernel
theorem dX10_count_57 : decode cX10_count 57 = .ok (.getfield 19, 3) := by decide +kernel
theorem dX10_count_60 : decode cX10_count 60 = .ok (.getfield 264, 3) := by decide +kernel
theorem dX10_count_63 : decode cX10_count 63 = .ok (.ireturn, 1) := by decide +kernel
theorem dX10_count_64 : decode cX10_count 64 = .ok (.aload_n 0, 1) := by decide +kernel
theorem dX10_count_65 : decode cX10_count 65 = .ok (.getfield 19, 3) := by decide +kernel
theorem dX10_count_68 : decode cX10_count 68 = .ok (.getfield 116, 3) := by decide +kernel
theorem dX10_count_71 : decode cX10_count 71 = .ok (.getfield 120, 3) := by decide +kernel
theorem dX10_count_74 : decode cX10_count 74 = .ok (.sipush 256, 3) := by decide +kernel
theorem dX10_count_77 : decode cX10_count 77 = .ok (.irem, 1) := by decide +kernel
theorem dX10_count_78 : decode cX10_count 78 = .ok (.ireturn, 1) := by decide +kernel
theorem dX10_count_79 : decode cX10_count 79 = .ok (.aload_n 0, 1) := by decide +kernel
theorem dX10_count_80 : decode cX10_count 80 = .ok (.getfield 19, 3) := by decide +kernel
theorem dX10_count_83 : decode cX10_count 83 = .ok (.getfield 116, 3) := by decide +kernel
theorem dX10_count_86 : decode cX10_count 86 = .ok (.getfield 120, 3) := by decide +kernel
theorem dX10_count_89 : decode cX10_count 89 = .ok (.sipush 256, 3) := by decide +kernel
theorem dX10_count_92 : decode cX10_count 92 = .ok (.idiv, 1) := by decide +kernel
theorem dX10_count_93 : decode cX10_count 93 = .ok (.ireturn, 1) := by decide +kernel
theorem dX10_count_94 : decode cX10_count 94 = .ok (.aload_n 0, 1) := by decide +kernel
theorem dX10_count_95 : decode cX10_count 95 = .ok (.getfield 19, 3) := by decide +kernel
theorem dX10_count_98 : decode cX10_count 98 = .ok (.getfield 116, 3) := by decide +kernel
theorem dX10_count_101 : decode cX10_count 101 = .ok (.getfield 185, 3) := by decide +kernel
theorem dX10_count_104 : decode cX10_count 104 = .ok (.ireturn, 1) := by decide +kernel
theorem dX10_count_105 : decode cX10_count 105 = .ok (.aload_n 0, 1) := by decide +kernel
theorem dX10_count_106 : decode cX10_count 106 = .ok (.getfield 19, 3) := by decide +kernel
theorem dX10_count_109 : decode cX10_count 109 = .ok (.getfield 116, 3) := by decide +kernel
theorem dX10_count_112 : decode cX10_count 112 = .ok (.getfield 149, 3) := by decide +kernel
theorem dX10_count_115 : decode cX10_count 115 = .ok (.ifCond .eq 7, 3) := by decide +kernel
theorem dX10_count_118 : decode cX10_count 118 = .ok (.iconst 1, 1) := by decide +kernel
theorem dX10_count_119 : decode cX10_count 119 = .ok (.goto 4, 3) := by decide +kernel
theorem dX10_count_122 : decode cX10_count 122 = .ok (.iconst 0, 1) := by decide +kernel
theorem dX10_count_123 : decode cX10_count 123 = .ok (.ireturn, 1) := by decide +kernel
theorem dX10_count_124 : decode cX10_count 124 = .ok (.aload_n 0, 1) := by decide +kernel
theorem dX10_count_125 : decode cX10_count 125 = .ok (.getfield 58, 3) := by decide +kernel
theorem dX10_count_128 : decode cX10_count 128 = .ok (.ireturn, 1) := by decide +kernel
theorem dX10_count_129 : decode cX10_count 129 = .ok (.aload_n 0, 1) := by decide +kernel
theorem dX10_count_130 : decode cX10_count 130 = .ok (.getfield 12, 3) := by decide +kernel
theorem dX10_count_133 : decode cX10_count 133 = .ok (.getfield 63, 3) := by decide +kernel
theorem dX10_count_136 : decode cX10_count 136 = .ok (.ireturn, 1) := by decide +kernel
theorem dX10_count_137 : decode cX10_count 137 = .ok (.bipush (-3), 2) := by decide +kernel
theorem dX10_count_139 : decode cX10_count 139 = .ok (.ireturn, 1) := by decide +kernel
theorem dX10_isBank_0 : decode cX10_isBank 0 = .ok (.iload_n 0, 1) := by decide +kernel
theorem dX10_isBank_1 : decode cX10_isBank 1 = .ok (.ifCond .eq 8, 3) := by decide +kernel
theorem dX10_isBank_4 : decode cX10_isBank 4 = .ok (.iload_n 0, 1) := by decide +kernel
theorem dX10_isBank_5 : decode cX10_isBank 5 = .ok (.iconst 1, 1) := by decide +kernel
theorem dX10_isBank_6 : decode cX10_isBank 6 = .ok (.if_icmp .ne 7, 3) := by decide +kernel
theorem dX10_isBank_9 : decode cX10_isBank 9 = .ok (.iconst 1, 1) := by decide +kernel
theorem dX10_isBank_10 : decode cX10_isBank 10 = .ok (.goto 4, 3) := by decide +kernel
theorem dX10_isBank_13 : decode cX10_isBank 13 = .ok (.iconst 0, 1) := by decide +kernel
theorem dX10_isBank_14 : decode cX10_isBank 14 = .ok (.ireturn, 1) := by decide +kernel
theorem dX10_bankOf_0 : decode cX10_bankOf 0 = .ok (.iload_n 1, 1) := by decide +kernel
theorem dX10_bankOf_1 : decode cX10_bankOf 1 = .ok (.sipush 256, 3) := by decide +kernel
theorem dX10_bankOf_4 : decode cX10_bankOf 4 = .ok (.idiv, 1) := by decide +kernel
theorem dX10_bankOf_5 : decode cX10_bankOf 5 = .ok (.iload_n 0, 1) := by decide +kernel
theorem dX10_bankOf_6 : decode cX10_bankOf 6 = .ok (.ishr, 1) := by decide +kernel
theorem dX10_bankOf_7 : decode cX10_bankOf 7 = .ok (.iconst 1, 1) := by decide +kernel
theorem dX10_bankOf_8 : decode cX10_bankOf 8 = .ok (.iand, 1) := by decide +kernel
theorem dX10_bankOf_9 : decode cX10_bankOf 9 = .ok (.ireturn, 1) := by decide +kernel
theorem dX10_allOn_0 : decode cX10_allOn 0 = .ok (.iload_n 1, 1) := by decide +kernel
theorem dX10_allOn_1 : decode cX10_allOn 1 = .ok (.iload_n 2, 1) := by decide +kernel
theorem dX10_allOn_2 : decode cX10_allOn 2 = .ok (.iand, 1) := by decide +kernel
theorem dX10_allOn_3 : decode cX10_allOn 3 = .ok (.iload_n 0, 1) := by decide +kernel
theorem dX10_allOn_4 : decode cX10_allOn 4 = .ok (.iconst 1, 1) := by decide +kernel
theorem dX10_allOn_5 : decode cX10_allOn 5 = .ok (.if_icmp .ne 7, 3) := by decide +kernel
theorem dX10_allOn_8 : decode cX10_allOn 8 = .ok (.iload_n 1, 1) := by decide +kernel
theorem dX10_allOn_9 : decode cX10_allOn 9 = .ok (.goto 4, 3) := by decide +kernel
theorem dX10_allOn_12 : decode cX10_allOn 12 = .ok (.iconst 0, 1) := by decide +kernel
theorem dX10_allOn_13 : decode cX10_allOn 13 = .ok (.if_icmp .ne 7, 3) := by decide +kernel
theorem dX10_allOn_16 : decode cX10_allOn 16 = .ok (.iconst 1, 1) := by decide +kernel
theorem dX10_allOn_17 : decode cX10_allOn 17 = .ok (.goto 4, 3) := by decide +kernel
theorem dX10_allOn_20 : decode cX10_allOn 20 = .ok (.iconst 0, 1) := by decide +kernel
theorem dX10_allOn_21 : decode cX10_allOn 21 = .ok (.ireturn, 1) := by decide +kernel
theorem dX10_crossingOf_0 : decode cX10_crossingOf 0 = .ok (.sipush 256, 3) := by decide +kernel
theorem dX10_crossingOf_3 : decode cX10_crossingOf 3 = .ok (.iload_n 0, 1) := by decide +kernel
theorem dX10_crossingOf_4 : decode cX10_crossingOf 4 = .ok (.imul, 1) := by decide +kernel
theorem dX10_crossingOf_5 : decode cX10_crossingOf 5 = .ok (.iload_n 1, 1) := by decide +kernel
theorem dX10_crossingOf_6 : decode cX10_crossingOf 6 = .ok (.iadd, 1) := by decide +kernel
theorem dX10_crossingOf_7 : decode cX10_crossingOf 7 = .ok (.ireturn, 1) := by decide +kernel
theorem dX10_ferryOf_0 : decode cX10_ferryOf 0 = .ok (.iload_n 0, 1) := by decide +kernel
theorem dX10_ferryOf_1 : decode cX10_ferryOf 1 = .ok (.sipush 256, 3) := by decide +kernel
theorem dX10_ferryOf_4 : decode cX10_ferryOf 4 = .ok (.idiv, 1) := by decide +kernel
theorem dX10_ferryOf_5 : decode cX10_ferryOf 5 = .ok (.ireturn, 1) := by decide +kernel
theorem dX10_loadOf_0 : decode cX10_loadOf 0 = .ok (.iload_n 0, 1) := by decide +kernel
theorem dX10_loadOf_1 : decode cX10_loadOf 1 = .ok (.sipush 256, 3) := by decide +kernel
theorem dX10_loadOf_4 : decode cX10_loadOf 4 = .ok (.irem, 1) := by decide +kernel
theorem dX10_loadOf_5 : decode cX10_loadOf 5 = .ok (.ireturn, 1) := by decide +kernel
theorem dX10_banksBehind_0 : decode cX10_banksBehind 0 = .ok (.iload_n 0, 1) := by decide +kernel
theorem dX10_banksBehind_1 : decode cX10_banksBehind 1 = .ok (.iload_n 1, 1) := by decide +kernel
theorem dX10_banksBehind_2 : decode cX10_banksBehind 2 = .ok (.invokestatic 261, 3) := by decide +kernel
theorem dX10_banksBehind_5 : decode cX10_banksBehind 5 = .ok (.ixor, 1) := by decide +kernel
theorem dX10_banksBehind_6 : decode cX10_banksBehind 6 = .ok (.sipush 256, 3) := by decide +kernel
theorem dX10_banksBehind_9 : decode cX10_banksBehind 9 = .ok (.iload_n 1, 1) := by decide +kernel
theorem dX10_banksBehind_10 : decode cX10_banksBehind 10 = .ok (.invokestatic 258, 3) := by decide +kernel
theorem dX10_banksBehind_13 : decode cX10_banksBehind 13 = .ok (.ishl, 1) := by decide +kernel
theorem dX10_banksBehind_14 : decode cX10_banksBehind 14 = .ok (.ixor, 1) := by decide +kernel
theorem dX10_banksBehind_15 : decode cX10_banksBehind 15 = .ok (.ireturn, 1) := by decide +kernel
theorem dX11_init_0 : decode cX11_init 0 = .ok (.aload_n 0, 1) := by decide +kernel
theorem dX11_init_1 : decode cX11_init 1 = .ok (.invokespecial 1, 3) := by decide +kernel
theorem dX11_init_4 : decode cX11_init 4 = .ok (.aload_n 0, 1) := by decide +kernel
theorem dX11_init_5 : decode cX11_init 5 = .ok (.bipush 48, 2) := by decide +kernel
theorem dX11_init_7 : decode cX11_init 7 = .ok (.newarray .int, 2) := by decide +kernel
theorem dX11_init_9 : decode cX11_init 9 = .ok (.putfield 7, 3) := by decide +kernel
theorem dX11_init_12 : decode cX11_init 12 = .ok (.aload_n 0, 1) := by decide +kernel
theorem dX11_init_13 : decode cX11_init 13 = .ok (.bipush 15, 2) := by decide +kernel
theorem dX11_init_15 : decode cX11_init 15 = .ok (.newarray .int, 2) := by decide +kernel
theorem dX11_init_17 : decode cX11_init 17 = .ok (.putfield 13, 3) := by decide +kernel
theorem dX11_init_20 : decode cX11_init 20 = .ok (.aload_n 0, 1) := by decide +kernel
theorem dX11_init_21 : decode cX11_init 21 = .ok (.sipush 200, 3) := by decide +kernel
theorem dX11_init_24 : decode cX11_init 24 = .ok (.newarray .int, 2) := by decide +kernel
theorem dX11_init_26 : decode cX11_init 26 = .ok (.putfield 16, 3) := by decide +kernel
theorem dX11_init_29 : decode cX11_init 29 = .ok (.aload_n 0, 1) := by decide +kernel
theorem dX11_init_30 : decode cX11_init 30 = .ok (.bipush 8, 2) := by decide +kernel
theorem dX11_init_32 : decode cX11_init 32 = .ok (.newarray .int, 2) := by decide +kernel
theorem dX11_init_34 : decode cX11_init 34 = .ok (.putfield 19, 3) := by decide +kernel
theorem dX11_init_37 : decode cX11_init 37 = .ok (.aload_n 0, 1) := by decide +kernel
theorem dX11_init_38 : decode cX11_init 38 = .ok (.bipush 60, 2) := by decide +kernel
theorem dX11_init_40 : decode cX11_init 40 = .ok (.newarray .int, 2) := by decide +kernel
theorem dX11_init_42 : decode cX11_init 42 = .ok (.putfield 22, 3) := by decide +kernel
theorem dX11_init_45 : decode cX11_init 45 = .ok (.aload_n 0, 1) := by decide +kernel
theorem dX11_init_46 : decode cX11_init 46 = .ok (.bipush 10, 2) := by decide +kernel
theorem dX11_init_48 : decode cX11_init 48 = .ok (.newarray .int, 2) := by decide +kernel
theorem dX11_init_50 : decode cX11_init 50 = .ok (.putfield 25, 3) := by decide +kernel
theorem dX11_init_53 : decode cX11_init 53 = .ok (.aload_n 0, 1) := by decide +kernel
theorem dX11_init_54 : decode cX11_init 54 = .ok (.iconst 2, 1) := by decide +kernel
theorem dX11_init_55 : decode cX11_init 55 = .ok (.newarray .boolean, 2) := by decide +kernel
theorem dX11_init_57 : decode cX11_init 57 = .ok (.putfield 28, 3) := by decide +kernel
theorem dX11_init_60 : decode cX11_init 60 = .ok (.aload_n 0, 1) := by decide +kernel
theorem dX11_init_61 : decode cX11_init 61 = .ok (.bipush 24, 2) := by decide +kernel
theorem dX11_init_63 : decode cX11_init 63 = .ok (.newarray .int, 2) := by decide +kernel
theorem dX11_init_65 : decode cX11_init 65 = .ok (.putfield 32, 3) := by decide +kernel
theorem dX11_init_68 : decode cX11_init 68 = .ok (.aload_n 0, 1) := by decide +kernel
theorem dX11_init_69 : decode cX11_init 69 = .ok (.sipush 2048, 3) := by decide +kernel
theorem dX11_init_72 : decode cX11_init 72 = .ok (.newarray .int, 2) := by decide +kernel
theorem dX11_init_74 : decode cX11_init 74 = .ok (.putfield 35, 3) := by decide +kernel
theorem dX11_init_77 : decode cX11_init 77 = .ok (.aload_n 0, 1) := by decide +kernel
theorem dX11_init_78 : decode cX11_init 78 = .ok (.sipush 2048, 3) := by decide +kernel
theorem dX11_init_81 : decode cX11_init 81 = .ok (.newarray .int, 2) := by decide +kernel
theorem dX11_init_83 : decode cX11_init 83 = .ok (.putfield 38, 3) := by decide +kernel
theorem dX11_init_86 : decode cX11_init 86 = .ok (.aload_n 0, 1) := by decide +kernel
theorem dX11_init_87 : decode cX11_init 87 = .ok (.sipush 2048, 3) := by decide +kernel
theorem dX11_init_90 : decode cX11_init 90 = .ok (.newarray .int, 2) := by decide +kernel
theorem dX11_init_92 : decode cX11_init 92 = .ok (.putfield 41, 3) := by decide +kernel
theorem dX11_init_95 : decode cX11_init 95 = .ok (.aload_n 0, 1) := by decide +kernel
theorem dX11_init_96 : decode cX11_init 96 = .ok (.sipush 2048, 3) := by decide +kernel
theorem dX11_init_99 : decode cX11_init 99 = .ok (.newarray .int, 2) := by decide +kernel
theorem dX11_init_101 : decode cX11_init 101 = .ok (.putfield 44, 3) := by decide +kernel
theorem dX11_init_104 : decode cX11_init 104 = .ok (.return_, 1) := by decide +kernel
theorem dX11_in_0 : decode cX11_in 0 = .ok (.iload_n 0, 1) := by decide +kernel
theorem dX11_in_1 : decode cX11_in 1 = .ok (.iload_n 1, 1) := by decide +kernel
theorem dX11_in_2 : decode cX11_in 2 = .ok (.if_icmp .lt 12, 3) := by decide +kernel
theorem dX11_in_5 : decode cX11_in 5 = .ok (.iload_n 0, 1) := by decide +kernel
theorem dX11_in_6 : decode cX11_in 6 = .ok (.iload_n 2, 1) := by decide +kernel
theorem dX11_in_7 : decode cX11_in 7 = .ok (.if_icmp .gt 7, 3) := by decide +kernel
theorem dX11_in_10 : decode cX11_in 10 = .ok (.iconst 1, 1) := by decide +kernel
theorem dX11_in_11 : decode cX11_in 11 = .ok (.goto 4, 3) := by decide +kernel
theorem dX11_in_14 : decode cX11_in 14 = .ok (.iconst 0, 1) := by decide +kernel
theorem dX11_in_15 : decode cX11_in 15 = .ok (.ireturn, 1) := by decide +kernel
theorem dX11_has_0 : decode cX11_has 0 = .ok (.iload_n 0, 1) := by decide +kernel
theorem dX11_has_1 : decode cX11_has 1 = .ok (.iload_n 1, 1) := by decide +kernel
theorem dX11_has_2 : decode cX11_has 2 = .ok (.ishr, 1) := by decide +kernel
theorem dX11_has_3 : decode cX11_has 3 = .ok (.iconst 1, 1) := by decide +kernel
theorem dX11_has_4 : decode cX11_has 4 = .ok (.iand, 1) := by decide +kernel
theorem dX11_has_5 : decode cX11_has 5 = .ok (.iconst 1, 1) := by decide +kernel
theorem dX11_has_6 : decode cX11_has 6 = .ok (.if_icmp .ne 7, 3) := by decide +kernel
theorem dX11_has_9 : decode cX11_has 9 = .ok (.iconst 1, 1) := by decide +kernel
theorem dX11_has_10 : decode cX11_has 10 = .ok (.goto 4, 3) := by decide +kernel
theorem dX11_has_13 : decode cX11_has 13 = .ok (.iconst 0, 1) := by decide +kernel
theorem dX11_has_14 : decode cX11_has 14 = .ok (.ireturn, 1) := by decide +kernel
theorem dX11_isThing_0 : decode cX11_isThing 0 = .ok (.iload_n 1, 1) := by decide +kernel
theorem dX11_isThing_1 : decode cX11_isThing 1 = .ok (.iconst 0, 1) := by decide +kernel
theorem dX11_isThing_2 : decode cX11_isThing 2 = .ok (.aload_n 0, 1) := by decide +kernel
theorem dX11_isThing_3 : decode cX11_isThing 3 = .ok (.getfield 47, 3) := by decide +kernel
theorem dX11_isThing_6 : decode cX11_isThing 6 = .ok (.iconst 1, 1) := by decide +kernel
theorem dX11_isThing_7 : decode cX11_isThing 7 = .ok (.isub, 1) := by decide +kernel
theorem dX11_isThing_8 : decode cX11_isThing 8 = .ok (.invokestatic 51, 3) := by decide +kernel
theorem dX11_isThing_11 : decode cX11_isThing 11 = .ok (.ireturn, 1) := by decide +kernel
theorem dX11_isFerry_0 : decode cX11_isFerry 0 = .ok (.iload_n 1, 1) := by decide +kernel
theorem dX11_isFerry_1 : decode cX11_isFerry 1 = .ok (.iconst 0, 1) := by decide +kernel
theorem dX11_isFerry_2 : decode cX11_isFerry 2 = .ok (.aload_n 0, 1) := by decide +kernel
theorem dX11_isFerry_3 : decode cX11_isFerry 3 = .ok (.getfield 55, 3) := by decide +kernel
theorem dX11_isFerry_6 : decode cX11_isFerry 6 = .ok (.iconst 1, 1) := by decide +kernel
theorem dX11_isFerry_7 : decode cX11_isFerry 7 = .ok (.isub, 1) := by decide +kernel
theorem dX11_isFerry_8 : decode cX11_isFerry 8 = .ok (.invokestatic 51, 3) := by decide +kernel
theorem dX11_isFerry_11 : decode cX11_isFerry 11 = .ok (.ireturn, 1) := by decide +kernel
theorem dX11_isSet_0 : decode cX11_isSet 0 = .ok (.iload_n 1, 1) := by decide +kernel
theorem dX11_isSet_1 : decode cX11_isSet 1 = .ok (.iconst 0, 1) := by decide +kernel
theorem dX11_isSet_2 : decode cX11_isSet 2 = .ok (.iconst 1, 1) := by decide +kernel
theorem dX11_isSet_3 : decode cX11_isSet 3 = .ok (.aload_n 0, 1) := by decide +kernel
theorem dX11_isSet_4 : decode cX11_isSet 4 = .ok (.getfield 47, 3) := by decide +kernel
theorem dX11_isSet_7 : decode cX11_isSet 7 = .ok (.ishl, 1) := by decide +kernel
theorem dX11_isSet_8 : decode cX11_isSet 8 = .ok (.iconst 1, 1) := by decide +kernel
theorem dX11_isSet_9 : decode cX11_isSet 9 = .ok (.isub, 1) := by decide +kernel
theorem dX11_isSet_10 : decode cX11_isSet 10 = .ok (.invokestatic 51, 3) := by decide +kernel
theorem dX11_isSet_13 : decode cX11_isSet 13 = .ok (.ireturn, 1) := by decide +kernel
theorem dX11_isBank_0 : decode cX11_isBank 0 = .ok (.iload_n 0, 1) := by decide +kernel
theorem dX11_isBank_1 : decode cX11_isBank 1 = .ok (.iconst 0, 1) := by decide +kernel
theorem dX11_isBank_2 : decode cX11_isBank 2 = .ok (.iconst 1, 1) := by decide +kernel
theorem dX11_isBank_3 : decode cX11_isBank 3 = .ok (.invokestatic 51, 3) := by decide +kernel
theorem dX11_isBank_6 : decode cX11_isBank 6 = .ok (.ireturn, 1) := by decide +kernel
theorem dX11_write_0 : decode cX11_write 0 = .ok (.iload_n 3, 1) := by decide +kernel
theorem dX11_write_1 : decode cX11_write 1 = .ok (.iconst 1, 1) := by decide +kernel
theorem dX11_write_2 : decode cX11_write 2 = .ok (.bipush 8, 2) := by decide +kernel
theorem dX11_write_4 : decode cX11_write 4 = .ok (.invokestatic 51, 3) := by decide +kernel
theorem dX11_write_7 : decode cX11_write 7 = .ok (.ifCond .ne 6, 3) := by decide +kernel
theorem dX11_write_10 : decode cX11_write 10 = .ok (.bipush (-3), 2) := by decide +kernel
theorem dX11_write_12 : decode cX11_write 12 = .ok (.ireturn, 1) := by decide +kernel
theorem dX11_write_13 : decode cX11_write 13 = .ok (.aload_n 0, 1) := by decide +kernel
theorem dX11_write_14 : decode cX11_write 14 = .ok (.getfield 58, 3) := by decide +kernel
theorem dX11_write_17 : decode cX11_write 17 = .ok (.iload_n 3, 1) := by decide +kernel
theorem dX11_write_18 : decode cX11_write 18 = .ok (.iadd, 1) := by decide +kernel
theorem dX11_write_19 : decode cX11_write 19 = .ok (.sipush 200, 3) := by decide +kernel
theorem dX11_write_22 : decode cX11_write 22 = .ok (.if_icmp .le 6, 3) := by decide +kernel
theorem dX11_write_25 : decode cX11_write 25 = .ok (.bipush (-5), 2) := by decide +kernel
theorem dX11_write_27 : decode cX11_write 27 = .ok (.ireturn, 1) := by decide +kernel
theorem dX11_write_28 : decode cX11_write 28 = .ok (.iconst 0, 1) := by decide +kernel
theorem dX11_write_29 : decode cX11_write 29 = .ok (.istore 4, 2) := by decide +kernel
theorem dX11_write_31 : decode cX11_write 31 = .ok (.iload 4, 2) := by decide +kernel
theorem dX11_write_33 : decode cX11_write 33 = .ok (.iload_n 3, 1) := by decide +kernel
theorem dX11_write_34 : decode cX11_write 34 = .ok (.if_icmp .ge 33, 3) := by decide +kernel
theorem dX11_write_37 : decode cX11_write 37 = .ok (.aload_n 0, 1) := by decide +kernel
theorem dX11_write_38 : decode cX11_write 38 = .ok (.getfield 16, 3) := by decide +kernel
theorem dX11_write_41 : decode cX11_write 41 = .ok (.aload_n 0, 1) := by decide +kernel
theorem dX11_write_42 : decode cX11_write 42 = .ok (.getfield 58, 3) := by decide +kernel
theorem dX11_write_45 : decode cX11_write 45 = .ok (.iload 4, 2) := by decide +kernel
theorem dX11_write_47 : decode cX11_write 47 = .ok (.iadd, 1) := by decide +kernel
theorem dX11_write_48 : decode cX11_write 48 = .ok (.lload_n 1, 1) := by decide +kernel
theorem dX11_write_49 : decode cX11_write 49 = .ok (.bipush 8, 2) := by decide +kernel
theorem dX11_write_51 : decode cX11_write 51 = .ok (.iload 4, 2) := by decide +kernel
theorem dX11_write_53 : decode cX11_write 53 = .ok (.imul, 1) := by decide +kernel
theorem dX11_write_54 : decode cX11_write 54 = .ok (.lshr, 1) := by decide +kernel
theorem dX11_write_55 : decode cX11_write 55 = .ok (.ldc2_w 61, 3) := by decide +kernel
theorem dX11_write_58 : decode cX11_write 58 = .ok (.land, 1) := by decide +kernel
theorem dX11_write_59 : decode cX11_write 59 = .ok (.l2i, 1) := by decide +kernel
theorem dX11_write_60 : decode cX11_write 60 = .ok (.iastore, 1) := by decide +kernel
theorem dX11_write_61 : decode cX11_write 61 = .ok (.iinc 4 1, 3) := by decide +kernel
theorem dX11_write_64 : decode cX11_write 64 = .ok (.goto (-33), 3) := by decide +kernel
theorem dX11_write_67 : decode cX11_write 67 = .ok (.aload_n 0, 1) := by decide +kernel
theorem dX11_write_68 : decode cX11_write 68 = .ok (.dup, 1) := by decide +kernel
theorem dX11_write_69 : decode cX11_write 69 = .ok (.getfield 58, 3) := by decide +kernel
theorem dX11_write_72 : decode cX11_write 72 = .ok (.iload_n 3, 1) := by decide +kernel
theorem dX11_write_73 : decode cX11_write 73 = .ok (.iadd, 1) := by decide +kernel
theorem dX11_write_74 : decode cX11_write 74 = .ok (.putfield 58, 3) := by decide +kernel
theorem dX11_write_77 : decode cX11_write 77 = .ok (.aload_n 0, 1) := by decide +kernel
theorem dX11_write_78 : decode cX11_write 78 = .ok (.getfield 58, 3) := by decide +kernel
theorem dX11_write_81 : decode cX11_write 81 = .ok (.ireturn, 1) := by decide +kernel
theorem dX11_erase_0 : decode cX11_erase 0 = .ok (.aload_n 0, 1) := by decide +kernel
theorem dX11_erase_1 : decode cX11_erase 1 = .ok (.getfield 58, 3) := by decide +kernel
theorem dX11_erase_4 : decode cX11_erase 4 = .ok (.istore_n 1, 1) := by decide +kernel
theorem dX11_erase_5 : decode cX11_erase 5 = .ok (.aload_n 0, 1) := by decide +kernel
theorem dX11_erase_6 : decode cX11_erase 6 = .ok (.iconst 0, 1) := by decide +kernel
theorem dX11_erase_7 : decode cX11_erase 7 = .ok (.putfield 58, 3) := by decide +kernel
theorem dX11_erase_10 : decode cX11_erase 10 = .ok (.iload_n 1, 1) := by decide +kernel
theorem dX11_erase_11 : decode cX11_erase 11 = .ok (.ireturn, 1) := by decide +kernel
theorem dX11_nextToken_0 : decode cX11_nextToken 0 = .ok (.aload_n 0, 1) := by decide +kernel
theorem dX11_nextToken_1 : decode cX11_nextToken 1 = .ok (.getfield 63, 3) := by decide +kernel
theorem dX11_nextToken_4 : decode cX11_nextToken 4 = .ok (.aload_n 0, 1) := by decide +kernel
theorem dX11_nextToken_5 : decode cX11_nextToken 5 = .ok (.getfield 58, 3) := by decide +kernel
theorem dX11_nextToken_8 : decode cX11_nextToken 8 = .ok (.if_icmp .ge 30, 3) := by decide +kernel
theorem dX11_nextToken_11 : decode cX11_nextToken 11 = .ok (.aload_n 0, 1) := by decide +kernel
theorem dX11_nextToken_12 : decode cX11_nextToken 12 = .ok (.getfield 16, 3) := by decide +kernel
theorem dX11_nextToken_15 : decode cX11_nextToken 15 = .ok (.aload_n 0, 1) := by decide +kernel
theorem dX11_nextToken_16 : decode cX11_nextToken 16 = .ok (.getfield 63, 3) := by decide +kernel
theorem dX11_nextToken_19 : decode cX11_nextToken 19 = .ok (.iaload, 1) := by decide +kernel
theorem dX11_nextToken_20 : decode cX11_nextToken 20 = .ok (.bipush 32, 2) := by decide +kernel
theorem dX11_nextToken_22 : decode cX11_nextToken 22 = .ok (.if_icmp .ne 16, 3) := by decide +kernel
theorem dX11_nextToken_25 : decode cX11_nextToken 25 = .ok (.aload_n 0, 1) := by decide +kernel
theorem dX11_nextToken_26 : decode cX11_nextToken 26 = .ok (.dup, 1) := by decide +kernel
theorem dX11_nextToken_27 : decode cX11_nextToken 27 = .ok (.getfield 63, 3) := by decide +kernel
theorem dX11_nextToken_30 : decode cX11_nextToken 30 = .ok (.iconst 1, 1) := by decide +kernel
theorem dX11_nextToken_31 : decode cX11_nextToken 31 = .ok (.iadd, 1) := by decide +kernel
theorem dX11_nextToken_32 : decode cX11_nextToken 32 = .ok (.putfield 63, 3) := by decide +kernel
theorem dX11_nextToken_35 : decode cX11_nextToken 35 = .ok (.goto (-35), 3) := by decide +kernel
theorem dX11_nextToken_38 : decode cX11_nextToken 38 = .ok (.aload_n 0, 1) := by decide +kernel
theorem dX11_nextToken_39 : decode cX11_nextToken 39 = .ok (.aload_n 0, 1) := by decide +kernel
theorem dX11_nextToken_40 : decode cX11_nextToken 40 = .ok (.getfield 63, 3) := by decide +kernel
theorem dX11_nextToken_43 : decode cX11_nextToken 43 = .ok (.putfield 66, 3) := by decide +kernel
theorem dX11_nextToken_46 : decode cX11_nextToken 46 = .ok (.aload_n 0, 1) := by decide +kernel
theorem dX11_nextToken_47 : decode cX11_nextToken 47 = .ok (.iconst 0, 1) := by decide +kernel
theorem dX11_nextToken_48 : decode cX11_nextToken 48 = .ok (.putfield 69, 3) := by decide +kernel
theorem dX11_nextToken_51 : decode cX11_nextToken 51 = .ok (.aload_n 0, 1) := by decide +kernel
theorem dX11_nextToken_52 : decode cX11_nextToken 52 = .ok (.iconst 0, 1) := by decide +kernel
theorem dX11_nextToken_53 : decode cX11_nextToken 53 = .ok (.putfield 72, 3) := by decide +kernel
theorem dX11_nextToken_56 : decode cX11_nextToken 56 = .ok (.aload_n 0, 1) := by decide +kernel
theorem dX11_nextToken_57 : decode cX11_nextToken 57 = .ok (.getfield 63, 3) := by decide +kernel
theorem dX11_nextToken_60 : decode cX11_nextToken 60 = .ok (.aload_n 0, 1) := by decide +kernel
theorem dX11_nextToken_61 : decode cX11_nextToken 61 = .ok (.getfield 58, 3) := by decide +kernel
theorem dX11_nextToken_64 : decode cX11_nextToken 64 = .ok (.if_icmp .ne 13, 3) := by decide +kernel
theorem dX11_nextToken_67 : decode cX11_nextToken 67 = .ok (.aload_n 0, 1) := by decide +kernel
theorem dX11_nextToken_68 : decode cX11_nextToken 68 = .ok (.ldc2_w 75, 3) := by decide +kernel
theorem dX11_nextToken_71 : decode cX11_nextToken 71 = .ok (.putfield 77, 3) := by decide +kernel
theorem dX11_nextToken_74 : decode cX11_nextToken 74 = .ok (.goto 320, 3) := by decide +kernel
theorem dX11_nextToken_77 : decode cX11_nextToken 77 = .ok (.aload_n 0, 1) := by decide +kernel
theorem dX11_nextToken_78 : decode cX11_nextToken 78 = .ok (.getfield 16, 3) := by decide +kernel
theorem dX11_nextToken_81 : decode cX11_nextToken 81 = .ok (.aload_n 0, 1) := by decide +kernel
theorem dX11_nextToken_82 : decode cX11_nextToken 82 = .ok (.getfield 63, 3) := by decide +kernel
theorem dX11_nextToken_85 : decode cX11_nextToken 85 = .ok (.iaload, 1) := by decide +kernel
theorem dX11_nextToken_86 : decode cX11_nextToken 86 = .ok (.bipush 97, 2) := by decide +kernel
theorem dX11_nextToken_88 : decode cX11_nextToken 88 = .ok (.bipush 122, 2) := by decide +kernel
theorem dX11_nextToken_90 : decode cX11_nextToken 90 = .ok (.invokestatic 51, 3) := by decide +kernel
theorem dX11_nextToken_93 : decode cX11_nextToken 93 = .ok (.ifCond .eq 129, 3) := by decide +kernel
theorem dX11_nextToken_96 : decode cX11_nextToken 96 = .ok (.aload_n 0, 1) := by decide +kernel
theorem dX11_nextToken_97 : decode cX11_nextToken 97 = .ok (.lconst 0, 1) := by decide +kernel
theorem dX11_nextToken_98 : decode cX11_nextToken 98 = .ok (.putfield 77, 3) := by decide +kernel
theorem dX11_nextToken_101 : decode cX11_nextToken 101 = .ok (.aload_n 0, 1) := by decide +kernel
theorem dX11_nextToken_102 : decode cX11_nextToken 102 = .ok (.getfield 63, 3) := by decide +kernel
theorem dX11_nextToken_105 : decode cX11_nextToken 105 = .ok (.aload_n 0, 1) := by decide +kernel
theorem dX11_nextToken_106 : decode cX11_nextToken 106 = .ok (.getfield 58, 3) := by decide +kernel
theorem dX11_nextToken_109 : decode cX11_nextToken 109 = .ok (.if_icmp .ge 82, 3) := by decide +kernel
theorem dX11_nextToken_112 : decode cX11_nextToken 112 = .ok (.aload_n 0, 1) := by decide +kernel
theorem dX11_nextToken_113 : decode cX11_nextToken 113 = .ok (.getfield 16, 3) := by decide +kernel
theorem dX11_nextToken_116 : decode cX11_nextToken 116 = .ok (.aload_n 0, 1) := by decide +kernel
theorem dX11_nextToken_117 : decode cX11_nextToken 117 = .ok (.getfield 63, 3) := by decide +kernel
theorem dX11_nextToken_120 : decode cX11_nextToken 120 = .ok (.iaload, 1) := by decide +kernel
theorem dX11_nextToken_121 : decode cX11_nextToken 121 = .ok (.bipush 97, 2) := by decide +kernel
theorem dX11_nextToken_123 : decode cX11_nextToken 123 = .ok (.bipush 122, 2) := by decide +kernel
theorem dX11_nextToken_125 : decode cX11_nextToken 125 = .ok (.invokestatic 51, 3) := by decide +kernel
theorem dX11_nextToken_128 : decode cX11_nextToken 128 = .ok (.ifCond .eq 63, 3) := by decide +kernel
theorem dX11_nextToken_131 : decode cX11_nextToken 131 = .ok (.aload_n 0, 1) := by decide +kernel
theorem dX11_nextToken_132 : decode cX11_nextToken 132 = .ok (.aload_n 0, 1) := by decide +kernel
theorem dX11_nextToken_133 : decode cX11_nextToken 133 = .ok (.getfield 63, 3) := by decide +kernel
theorem dX11_nextToken_136 : decode cX11_nextToken 136 = .ok (.aload_n 0, 1) := by decide +kernel
theorem dX11_nextToken_137 : decode cX11_nextToken 137 = .ok (.getfield 66, 3) := by decide +kernel
theorem dX11_nextToken_140 : decode cX11_nextToken 140 = .ok (.isub, 1) := by decide +kernel
theorem dX11_nextToken_141 : decode cX11_nextToken 141 = .ok (.bipush 9, 2) := by decide +kernel
theorem dX11_nextToken_143 : decode cX11_nextToken 143 = .ok (.if_icmp .ge 29, 3) := by decide +kernel
theorem dX11_nextToken_146 : decode cX11_nextToken 146 = .ok (.ldc2_w 81, 3) := by decide +kernel
theorem dX11_nextToken_149 : decode cX11_nextToken 149 = .ok (.aload_n 0, 1) := by decide +kernel
theorem dX11_nextToken_150 : decode cX11_nextToken 150 = .ok (.getfield 77, 3) := by decide +kernel
theorem dX11_nextToken_153 : decode cX11_nextToken 153 = .ok (.lmul, 1) := by decide +kernel
theorem dX11_nextToken_154 : decode cX11_nextToken 154 = .ok (.aload_n 0, 1) := by decide +kernel
theorem dX11_nextToken_155 : decode cX11_nextToken 155 = .ok (.getfield 16, 3) := by decide +kernel
theorem dX11_nextToken_158 : decode cX11_nextToken 158 = .ok (.aload_n 0, 1) := by decide +kernel
theorem dX11_nextToken_159 : decode cX11_nextToken 159 = .ok (.getfield 63, 3) := by decide +kernel
theorem dX11_nextToken_162 : decode cX11_nextToken 162 = .ok (.iaload, 1) := by decide +kernel
theorem dX11_nextToken_163 : decode cX11_nextToken 163 = .ok (.i2l, 1) := by decide +kernel
theorem dX11_nextToken_164 : decode cX11_nextToken 164 = .ok (.ladd, 1) := by decide +kernel
theorem dX11_nextToken_165 : decode cX11_nextToken 165 = .ok (.ldc2_w 83, 3) := by decide +kernel
theorem dX11_nextToken_168 : decode cX11_nextToken 168 = .ok (.lsub, 1) := by decide +kernel
theorem dX11_nextToken_169 : decode cX11_nextToken 169 = .ok (.goto 6, 3) := by decide +kernel
theorem dX11_nextToken_172 : decode cX11_nextToken 172 = .ok (.ldc2_w 85, 3) := by decide +kernel
theorem dX11_nextToken_175 : decode cX11_nextToken 175 = .ok (.putfield 77, 3) := by decide +kernel
theorem dX11_nextToken_178 : decode cX11_nextToken 178 = .ok (.aload_n 0, 1) := by decide +kernel
theorem dX11_nextToken_179 : decode cX11_nextToken 179 = .ok (.dup, 1) := by decide +kernel
theorem dX11_nextToken_180 : decode cX11_nextToken 180 = .ok (.getfield 63, 3) := by decide +kernel
theorem dX11_nextToken_183 : decode cX11_nextToken 183 = .ok (.iconst 1, 1) := by decide +kernel
theorem dX11_nextToken_184 : decode cX11_nextToken 184 = .ok (.iadd, 1) := by decide +kernel
theorem dX11_nextToken_185 : decode cX11_nextToken 185 = .ok (.putfield 63, 3) := by decide +kernel
theorem dX11_nextToken_188 : decode cX11_nextToken 188 = .ok (.goto (-87), 3) := by decide +kernel
theorem dX11_nextToken_191 : decode cX11_nextToken 191 = .ok (.aload_n 0, 1) := by decide +kernel
theorem dX11_nextToken_192 : decode cX11_nextToken 192 = .ok (.aload_n 0, 1) := by decide +kernel
theorem dX11_nextToken_193 : decode cX11_nextToken 193 = .ok (.getfield 63, 3) := by decide +kernel
theorem dX11_nextToken_196 : decode cX11_nextToken 196 = .ok (.aload_n 0, 1) := by decide +kernel
theorem dX11_nextToken_197 : decode cX11_nextToken 197 = .ok (.getfield 66, 3) := by decide +kernel
theorem dX11_nextToken_200 : decode cX11_nextToken 200 = .ok (.isub, 1) := by decide +kernel
theorem dX11_nextToken_201 : decode cX11_nextToken 201 = .ok (.bipush 9, 2) := by decide +kernel
theorem dX11_nextToken_203 : decode cX11_nextToken 203 = .ok (.if_icmp .le 9, 3) := by decide +kernel
theorem dX11_nextToken_206 : decode cX11_nextToken 206 = .ok (.ldc2_w 85, 3) := by decide +kernel
theorem dX11_nextToken_209 : decode cX11_nextToken 209 = .ok (.goto 7, 3) := by decide +kernel
theorem dX11_nextToken_212 : decode cX11_nextToken 212 = .ok (.aload_n 0, 1) := by decide +kernel
theorem dX11_nextToken_213 : decode cX11_nextToken 213 = .ok (.getfield 77, 3) := by decide +kernel
theorem dX11_nextToken_216 : decode cX11_nextToken 216 = .ok (.putfield 77, 3) := by decide +kernel
theorem dX11_nextToken_219 : decode cX11_nextToken 219 = .ok (.goto 175, 3) := by decide +kernel
theorem dX11_nextToken_222 : decode cX11_nextToken 222 = .ok (.aload_n 0, 1) := by decide +kernel
theorem dX11_nextToken_223 : decode cX11_nextToken 223 = .ok (.getfield 16, 3) := by decide +kernel
theorem dX11_nextToken_226 : decode cX11_nextToken 226 = .ok (.aload_n 0, 1) := by decide +kernel
theorem dX11_nextToken_227 : decode cX11_nextToken 227 = .ok (.getfield 63, 3) := by decide +kernel
theorem dX11_nextToken_230 : decode cX11_nextToken 230 = .ok (.iaload, 1) := by decide +kernel
theorem dX11_nextToken_231 : decode cX11_nextToken 231 = .ok (.bipush 48, 2) := by decide +kernel
theorem dX11_nextToken_233 : decode cX11_nextToken 233 = .ok (.bipush 57, 2) := by decide +kernel
theorem dX11_nextToken_235 : decode cX11_nextToken 235 = .ok (.invokestatic 51, 3) := by decide +kernel
theorem dX11_nextToken_238 : decode cX11_nextToken 238 = .ok (.ifCond .eq 119, 3) := by decide +kernel
theorem dX11_nextToken_241 : decode cX11_nextToken 241 = .ok (.aload_n 0, 1) := by decide +kernel
theorem dX11_nextToken_242 : decode cX11_nextToken 242 = .ok (.getfield 63, 3) := by decide +kernel
theorem dX11_nextToken_245 : decode cX11_nextToken 245 = .ok (.aload_n 0, 1) := by decide +kernel
theorem dX11_nextToken_246 : decode cX11_nextToken 246 = .ok (.getfield 58, 3) := by decide +kernel
theorem dX11_nextToken_249 : decode cX11_nextToken 249 = .ok (.if_icmp .ge 84, 3) := by decide +kernel
theorem dX11_nextToken_252 : decode cX11_nextToken 252 = .ok (.aload_n 0, 1) := by decide +kernel
theorem dX11_nextToken_253 : decode cX11_nextToken 253 = .ok (.getfield 16, 3) := by decide +kernel
theorem dX11_nextToken_256 : decode cX11_nextToken 256 = .ok (.aload_n 0, 1) := by decide +kernel
theorem dX11_nextToken_257 : decode cX11_nextToken 257 = .ok (.getfield 63, 3) := by decide +kernel
theorem dX11_nextToken_260 : decode cX11_nextToken 260 = .ok (.iaload, 1) := by decide +kernel
theorem dX11_nextToken_261 : decode cX11_nextToken 261 = .ok (.bipush 48, 2) := by decide +kernel
theorem dX11_nextToken_263 : decode cX11_nextToken 263 = .ok (.bipush 57, 2) := by decide +kernel
theorem dX11_nextToken_265 : decode cX11_nextToken 265 = .ok (.invokestatic 51, 3) := by decide +kernel
theorem dX11_nextToken_268 : decode cX11_nextToken 268 = .ok (.ifCond .eq 65, 3) := by decide +kernel
theorem dX11_nextToken_271 : decode cX11_nextToken 271 = .ok (.aload_n 0, 1) := by decide +kernel
theorem dX11_nextToken_272 : decode cX11_nextToken 272 = .ok (.aload_n 0, 1) := by decide +kernel
theorem dX11_nextToken_273 : decode cX11_nextToken 273 = .ok (.getfield 69, 3) := by decide +kernel
theorem dX11_nextToken_276 : decode cX11_nextToken 276 = .ok (.iconst 3, 1) := by decide +kernel
theorem dX11_nextToken_277 : decode cX11_nextToken 277 = .ok (.if_icmp .ge 26, 3) := by decide +kernel
theorem dX11_nextToken_280 : decode cX11_nextToken 280 = .ok (.bipush 10, 2) := by decide +kernel
theorem dX11_nextToken_282 : decode cX11_nextToken 282 = .ok (.aload_n 0, 1) := by decide +kernel
theorem dX11_nextToken_283 : decode cX11_nextToken 283 = .ok (.getfield 72, 3) := by decide +kernel
theorem dX11_nextToken_286 : decode cX11_nextToken 286 = .ok (.imul, 1) := by decide +kernel
theorem dX11_nextToken_287 : decode cX11_nextToken 287 = .ok (.aload_n 0, 1) := by decide +kernel
theorem dX11_nextToken_288 : decode cX11_nextToken 288 = .ok (.getfield 16, 3) := by decide +kernel
theorem dX11_nextToken_291 : decode cX11_nextToken 291 = .ok (.aload_n 0, 1) := by decide +kernel
theorem dX11_nextToken_292 : decode cX11_nextToken 292 = .ok (.getfield 63, 3) := by decide +kernel
theorem dX11_nextToken_295 : decode cX11_nextToken 295 = .ok (.iaload, 1) := by decide +kernel
theorem dX11_nextToken_296 : decode cX11_nextToken 296 = .ok (.iadd, 1) := by decide +kernel
theorem dX11_nextToken_297 : decode cX11_nextToken 297 = .ok (.bipush 48, 2) := by decide +kernel
theorem dX11_nextToken_299 : decode cX11_nextToken 299 = .ok (.isub, 1) := by decide +kernel
theorem dX11_nextToken_300 : decode cX11_nextToken 300 = .ok (.goto 7, 3) := by decide +kernel
theorem dX11_nextToken_303 : decode cX11_nextToken 303 = .ok (.aload_n 0, 1) := by decide +kernel
theorem dX11_nextToken_304 : decode cX11_nextToken 304 = .ok (.getfield 72, 3) := by decide +kernel
theorem dX11_nextToken_307 : decode cX11_nextToken 307 = .ok (.putfield 72, 3) := by decide +kernel
theorem dX11_nextToken_310 : decode cX11_nextToken 310 = .ok (.aload_n 0, 1) := by decide +kernel
theorem dX11_nextToken_311 : decode cX11_nextToken 311 = .ok (.dup, 1) := by decide +kernel
theorem dX11_nextToken_312 : decode cX11_nextToken 312 = .ok (.getfield 69, 3) := by decide +kernel
theorem dX11_nextToken_315 : decode cX11_nextToken 315 = .ok (.iconst 1, 1) := by decide +kernel
theorem dX11_nextToken_316 : decode cX11_nextToken 316 = .ok (.iadd, 1) := by decide +kernel
theorem dX11_nextToken_317 : decode cX11_nextToken 317 = .ok (.putfield 69, 3) := by decide +kernel
theorem dX11_nextToken_320 : decode cX11_nextToken 320 = .ok (.aload_n 0, 1) := by decide +kernel
theorem dX11_nextToken_321 : decode cX11_nextToken 321 = .ok (.dup, 1) := by decide +kernel
theorem dX11_nextToken_322 : decode cX11_nextToken 322 = .ok (.getfield 63, 3) := by decide +kernel
theorem dX11_nextToken_325 : decode cX11_nextToken 325 = .ok (.iconst 1, 1) := by decide +kernel
theorem dX11_nextToken_326 : decode cX11_nextToken 326 = .ok (.iadd, 1) := by decide +kernel
theorem dX11_nextToken_327 : decode cX11_nextToken 327 = .ok (.putfield 63, 3) := by decide +kernel
theorem dX11_nextToken_330 : decode cX11_nextToken 330 = .ok (.goto (-89), 3) := by decide +kernel
theorem dX11_nextToken_333 : decode cX11_nextToken 333 = .ok (.aload_n 0, 1) := by decide +kernel
theorem dX11_nextToken_334 : decode cX11_nextToken 334 = .ok (.aload_n 0, 1) := by decide +kernel
theorem dX11_nextToken_335 : decode cX11_nextToken 335 = .ok (.getfield 69, 3) := by decide +kernel
theorem dX11_nextToken_338 : decode cX11_nextToken 338 = .ok (.iconst 3, 1) := by decide +kernel
theorem dX11_nextToken_339 : decode cX11_nextToken 339 = .ok (.if_icmp .le 9, 3) := by decide +kernel
theorem dX11_nextToken_342 : decode cX11_nextToken 342 = .ok (.ldc2_w 85, 3) := by decide +kernel
theorem dX11_nextToken_345 : decode cX11_nextToken 345 = .ok (.goto 6, 3) := by decide +kernel
theorem dX11_nextToken_348 : decode cX11_nextToken 348 = .ok (.ldc2_w 87, 3) := by decide +kernel
theorem dX11_nextToken_351 : decode cX11_nextToken 351 = .ok (.putfield 77, 3) := by decide +kernel
theorem dX11_nextToken_354 : decode cX11_nextToken 354 = .ok (.goto 40, 3) := by decide +kernel
theorem dX11_nextToken_357 : decode cX11_nextToken 357 = .ok (.aload_n 0, 1) := by decide +kernel
theorem dX11_nextToken_358 : decode cX11_nextToken 358 = .ok (.aload_n 0, 1) := by decide +kernel
theorem dX11_nextToken_359 : decode cX11_nextToken 359 = .ok (.getfield 16, 3) := by decide +kernel
theorem dX11_nextToken_362 : decode cX11_nextToken 362 = .ok (.aload_n 0, 1) := by decide +kernel
theorem dX11_nextToken_363 : decode cX11_nextToken 363 = .ok (.getfield 63, 3) := by decide +kernel
theorem dX11_nextToken_366 : decode cX11_nextToken 366 = .ok (.iaload, 1) := by decide +kernel
theorem dX11_nextToken_367 : decode cX11_nextToken 367 = .ok (.bipush 59, 2) := by decide +kernel
theorem dX11_nextToken_369 : decode cX11_nextToken 369 = .ok (.if_icmp .ne 9, 3) := by decide +kernel
theorem dX11_nextToken_372 : decode cX11_nextToken 372 = .ok (.ldc2_w 89, 3) := by decide +kernel
theorem dX11_nextToken_375 : decode cX11_nextToken 375 = .ok (.goto 6, 3) := by decide +kernel
theorem dX11_nextToken_378 : decode cX11_nextToken 378 = .ok (.ldc2_w 85, 3) := by decide +kernel
theorem dX11_nextToken_381 : decode cX11_nextToken 381 = .ok (.putfield 77, 3) := by decide +kernel
theorem dX11_nextToken_384 : decode cX11_nextToken 384 = .ok (.aload_n 0, 1) := by decide +kernel
theorem dX11_nextToken_385 : decode cX11_nextToken 385 = .ok (.dup, 1) := by decide +kernel
theorem dX11_nextToken_386 : decode cX11_nextToken 386 = .ok (.getfield 63, 3) := by decide +kernel
theorem dX11_nextToken_389 : decode cX11_nextToken 389 = .ok (.iconst 1, 1) := by decide +kernel
theorem dX11_nextToken_390 : decode cX11_nextToken 390 = .ok (.iadd, 1) := by decide +kernel
theorem dX11_nextToken_391 : decode cX11_nextToken 391 = .ok (.putfield 63, 3) := by decide +kernel
theorem dX11_nextToken_394 : decode cX11_nextToken 394 = .ok (.return_, 1) := by decide +kernel
theorem dX11_fails_0 : decode cX11_fails 0 = .ok (.aload_n 0, 1) := by decide +kernel
theorem dX11_fails_1 : decode cX11_fails 1 = .ok (.aload_n 0, 1) := by decide +kernel
theorem dX11_fails_2 : decode cX11_fails 2 = .ok (.getfield 66, 3) := by decide +kernel
theorem dX11_fails_5 : decode cX11_fails 5 = .ok (.putfield 91, 3) := by decide +kernel
theorem dX11_fails_8 : decode cX11_fails 8 = .ok (.iconst 0, 1) := by decide +kernel
theorem dX11_fails_9 : decode cX11_fails 9 = .ok (.ireturn, 1) := by decide +kernel
theorem dX11_isNumber_0 : decode cX11_isNumber 0 = .ok (.aload_n 0, 1) := by decide +kernel
theorem dX11_isNumber_1 : decode cX11_isNumber 1 = .ok (.invokevirtual 94, 3) := by decide +kernel
theorem dX11_isNumber_4 : decode cX11_isNumber 4 = .ok (.aload_n 0, 1) := by decide +kernel
theorem dX11_isNumber_5 : decode cX11_isNumber 5 = .ok (.getfield 77, 3) := by decide +kernel
theorem dX11_isNumber_8 : decode cX11_isNumber 8 = .ok (.ldc2_w 87, 3) := by decide +kernel
theorem dX11_isNumber_11 : decode cX11_isNumber 11 = .ok (.lcmp, 1) := by decide +kernel
theorem dX11_isNumber_12 : decode cX11_isNumber 12 = .ok (.ifCond .ne 15, 3) := by decide +kernel
theorem dX11_isNumber_15 : decode cX11_isNumber 15 = .ok (.aload_n 0, 1) := by decide +kernel
theorem dX11_isNumber_16 : decode cX11_isNumber 16 = .ok (.getfield 72, 3) := by decide +kernel
theorem dX11_isNumber_19 : decode cX11_isNumber 19 = .ok (.iload_n 2, 1) := by decide +kernel
theorem dX11_isNumber_20 : decode cX11_isNumber 20 = .ok (.iload_n 3, 1) := by decide +kernel
theorem dX11_isNumber_21 : decode cX11_isNumber 21 = .ok (.invokestatic 51, 3) := by decide +kernel
theorem dX11_isNumber_24 : decode cX11_isNumber 24 = .ok (.ifCond .ne 8, 3) := by decide +kernel
theorem dX11_isNumber_27 : decode cX11_isNumber 27 = .ok (.aload_n 0, 1) := by decide +kernel
theorem dX11_isNumber_28 : decode cX11_isNumber 28 = .ok (.invokevirtual 97, 3) := by decide +kernel
theorem dX11_isNumber_31 : decode cX11_isNumber 31 = .ok (.ireturn, 1) := by decide +kernel
theorem dX11_isNumber_32 : decode cX11_isNumber 32 = .ok (.aload_n 0, 1) := by decide +kernel
theorem dX11_isNumber_33 : decode cX11_isNumber 33 = .ok (.getfield 22, 3) := by decide +kernel
theorem dX11_isNumber_36 : decode cX11_isNumber 36 = .ok (.iload_n 1, 1) := by decide +kernel
theorem dX11_isNumber_37 : decode cX11_isNumber 37 = .ok (.aload_n 0, 1) := by decide +kernel
theorem dX11_isNumber_38 : decode cX11_isNumber 38 = .ok (.getfield 72, 3) := by decide +kernel
theorem dX11_isNumber_41 : decode cX11_isNumber 41 = .ok (.iastore, 1) := by decide +kernel
theorem dX11_isNumber_42 : decode cX11_isNumber 42 = .ok (.iconst 1, 1) := by decide +kernel
theorem dX11_isNumber_43 : decode cX11_isNumber 43 = .ok (.ireturn, 1) := by decide +kernel
theorem dX11_isThingLine_0 : decode cX11_isThingLine 0 = .ok (.aload_n 0, 1) := by decide +kernel
theorem dX11_isThingLine_1 : decode cX11_isThingLine 1 = .ok (.getfield 101, 3) := by decide +kernel
theorem dX11_isThingLine_4 : decode cX11_isThingLine 4 = .ok (.bipush 8, 2) := by decide +kernel
theorem dX11_isThingLine_6 : decode cX11_isThingLine 6 = .ok (.if_icmp .ne 8, 3) := by decide +kernel
theorem dX11_isThingLine_9 : decode cX11_isThingLine 9 = .ok (.aload_n 0, 1) := by decide +kernel
theorem dX11_isThingLine_10 : decode cX11_isThingLine 10 = .ok (.invokevirtual 97, 3) := by decide +kernel
theorem dX11_isThingLine_13 : decode cX11_isThingLine 13 = .ok (.ireturn, 1) := by decide +kernel
theorem dX11_isThingLine_14 : decode cX11_isThingLine 14 = .ok (.aload_n 0, 1) := by decide +kernel
theorem dX11_isThingLine_15 : decode cX11_isThingLine 15 = .ok (.getfield 19, 3) := by decide +kernel
theorem dX11_isThingLine_18 : decode cX11_isThingLine 18 = .ok (.aload_n 0, 1) := by decide +kernel
theorem dX11_isThingLine_19 : decode cX11_isThingLine 19 = .ok (.getfield 101, 3) := by decide +kernel
theorem dX11_isThingLine_22 : decode cX11_isThingLine 22 = .ok (.aload_n 0, 1) := by decide +kernel
theorem dX11_isThingLine_23 : decode cX11_isThingLine 23 = .ok (.getfield 22, 3) := by decide +kernel
theorem dX11_isThingLine_26 : decode cX11_isThingLine 26 = .ok (.iload_n 1, 1) := by decide +kernel
theorem dX11_isThingLine_27 : decode cX11_isThingLine 27 = .ok (.iaload, 1) := by decide +kernel
theorem dX11_isThingLine_28 : decode cX11_isThingLine 28 = .ok (.iastore, 1) := by decide +kernel
theorem dX11_isThingLine_29 : decode cX11_isThingLine 29 = .ok (.aload_n 0, 1) := by decide +kernel
theorem dX11_isThingLine_30 : decode cX11_isThingLine 30 = .ok (.dup, 1) := by decide +kernel
theorem dX11_isThingLine_31 : decode cX11_isThingLine 31 = .ok (.getfield 101, 3) := by decide +kernel
theorem dX11_isThingLine_34 : decode cX11_isThingLine 34 = .ok (.iconst 1, 1) := by decide +kernel
theorem dX11_isThingLine_35 : decode cX11_isThingLine 35 = .ok (.iadd, 1) := by decide +kernel
theorem dX11_isThingLine_36 : decode cX11_isThingLine 36 = .ok (.putfield 101, 3) := by decide +kernel
theorem dX11_isThingLine_39 : decode cX11_isThingLine 39 = .ok (.aload_n 0, 1) := by decide +kernel
theorem dX11_isThingLine_40 : decode cX11_isThingLine 40 = .ok (.iload_n 1, 1) := by decide +kernel
theorem dX11_isThingLine_41 : decode cX11_isThingLine 41 = .ok (.iconst 1, 1) := by decide +kernel
theorem dX11_isThingLine_42 : decode cX11_isThingLine 42 = .ok (.iadd, 1) := by decide +kernel
theorem dX11_isThingLine_43 : decode cX11_isThingLine 43 = .ok (.iconst 1, 1) := by decide +kernel
theorem dX11_isThingLine_44 : decode cX11_isThingLine 44 = .ok (.bipush 99, 2) := by decide +kernel
theorem dX11_isThingLine_46 : decode cX11_isThingLine 46 = .ok (.invokevirtual 104, 3) := by decide +kernel
theorem dX11_isThingLine_49 : decode cX11_isThingLine 49 = .ok (.ifCond .eq 19, 3) := by decide +kernel
theorem dX11_isThingLine_52 : decode cX11_isThingLine 52 = .ok (.aload_n 0, 1) := by decide +kernel
theorem dX11_isThingLine_53 : decode cX11_isThingLine 53 = .ok (.iload_n 1, 1) := by decide +kernel
theorem dX11_isThingLine_54 : decode cX11_isThingLine 54 = .ok (.iconst 2, 1) := by decide +kernel
theorem dX11_isThingLine_55 : decode cX11_isThingLine 55 = .ok (.iadd, 1) := by decide +kernel
theorem dX11_isThingLine_56 : decode cX11_isThingLine 56 = .ok (.iconst 0, 1) := by decide +kernel
theorem dX11_isThingLine_57 : decode cX11_isThingLine 57 = .ok (.iconst 1, 1) := by decide +kernel
theorem dX11_isThingLine_58 : decode cX11_isThingLine 58 = .ok (.invokevirtual 104, 3) := by decide +kernel
theorem dX11_isThingLine_61 : decode cX11_isThingLine 61 = .ok (.ifCond .eq 7, 3) := by decide +kernel
theorem dX11_isThingLine_64 : decode cX11_isThingLine 64 = .ok (.iconst 1, 1) := by decide +kernel
theorem dX11_isThingLine_65 : decode cX11_isThingLine 65 = .ok (.goto 4, 3) := by decide +kernel
theorem dX11_isThingLine_68 : decode cX11_isThingLine 68 = .ok (.iconst 0, 1) := by decide +kernel
theorem dX11_isThingLine_69 : decode cX11_isThingLine 69 = .ok (.ireturn, 1) := by decide +kernel
theorem dX11_isFerryLine_0 : decode cX11_isFerryLine 0 = .ok (.aload_n 0, 1) := by decide +kernel
theorem dX11_isFerryLine_1 : decode cX11_isFerryLine 1 = .ok (.getfield 107, 3) := by decide +kernel
theorem dX11_isFerryLine_4 : decode cX11_isFerryLine 4 = .ok (.iconst 3, 1) := by decide +kernel
theorem dX11_isFerryLine_5 : decode cX11_isFerryLine 5 = .ok (.if_icmp .ne 8, 3) := by decide +kernel
theorem dX11_isFerryLine_8 : decode cX11_isFerryLine 8 = .ok (.aload_n 0, 1) := by decide +kernel
theorem dX11_isFerryLine_9 : decode cX11_isFerryLine 9 = .ok (.invokevirtual 97, 3) := by decide +kernel
theorem dX11_isFerryLine_12 : decode cX11_isFerryLine 12 = .ok (.ireturn, 1) := by decide +kernel
theorem dX11_isFerryLine_13 : decode cX11_isFerryLine 13 = .ok (.aload_n 0, 1) := by decide +kernel
theorem dX11_isFerryLine_14 : decode cX11_isFerryLine 14 = .ok (.dup, 1) := by decide +kernel
theorem dX11_isFerryLine_15 : decode cX11_isFerryLine 15 = .ok (.getfield 107, 3) := by decide +kernel
theorem dX11_isFerryLine_18 : decode cX11_isFerryLine 18 = .ok (.iconst 1, 1) := by decide +kernel
theorem dX11_isFerryLine_19 : decode cX11_isFerryLine 19 = .ok (.iadd, 1) := by decide +kernel
theorem dX11_isFerryLine_20 : decode cX11_isFerryLine 20 = .ok (.putfield 107, 3) := by decide +kernel
theorem dX11_isFerryLine_23 : decode cX11_isFerryLine 23 = .ok (.aload_n 0, 1) := by decide +kernel
theorem dX11_isFerryLine_24 : decode cX11_isFerryLine 24 = .ok (.iload_n 1, 1) := by decide +kernel
theorem dX11_isFerryLine_25 : decode cX11_isFerryLine 25 = .ok (.iconst 1, 1) := by decide +kernel
theorem dX11_isFerryLine_26 : decode cX11_isFerryLine 26 = .ok (.iadd, 1) := by decide +kernel
theorem dX11_isFerryLine_27 : decode cX11_isFerryLine 27 = .ok (.iconst 1, 1) := by decide +kernel
theorem dX11_isFerryLine_28 : decode cX11_isFerryLine 28 = .ok (.sipush 999, 3) := by decide +kernel
theorem dX11_isFerryLine_31 : decode cX11_isFerryLine 31 = .ok (.invokevirtual 104, 3) := by decide +kernel
theorem dX11_isFerryLine_34 : decode cX11_isFerryLine 34 = .ok (.ifCond .eq 45, 3) := by decide +kernel
theorem dX11_isFerryLine_37 : decode cX11_isFerryLine 37 = .ok (.aload_n 0, 1) := by decide +kernel
theorem dX11_isFerryLine_38 : decode cX11_isFerryLine 38 = .ok (.iload_n 1, 1) := by decide +kernel
theorem dX11_isFerryLine_39 : decode cX11_isFerryLine 39 = .ok (.iconst 2, 1) := by decide +kernel
theorem dX11_isFerryLine_40 : decode cX11_isFerryLine 40 = .ok (.iadd, 1) := by decide +kernel
theorem dX11_isFerryLine_41 : decode cX11_isFerryLine 41 = .ok (.iconst 0, 1) := by decide +kernel
theorem dX11_isFerryLine_42 : decode cX11_isFerryLine 42 = .ok (.iconst 1, 1) := by decide +kernel
theorem dX11_isFerryLine_43 : decode cX11_isFerryLine 43 = .ok (.invokevirtual 104, 3) := by decide +kernel
theorem dX11_isFerryLine_46 : decode cX11_isFerryLine 46 = .ok (.ifCond .eq 33, 3) := by decide +kernel
theorem dX11_isFerryLine_49 : decode cX11_isFerryLine 49 = .ok (.aload_n 0, 1) := by decide +kernel
theorem dX11_isFerryLine_50 : decode cX11_isFerryLine 50 = .ok (.iload_n 1, 1) := by decide +kernel
theorem dX11_isFerryLine_51 : decode cX11_isFerryLine 51 = .ok (.iconst 3, 1) := by decide +kernel
theorem dX11_isFerryLine_52 : decode cX11_isFerryLine 52 = .ok (.iadd, 1) := by decide +kernel
theorem dX11_isFerryLine_53 : decode cX11_isFerryLine 53 = .ok (.iconst 1, 1) := by decide +kernel
theorem dX11_isFerryLine_54 : decode cX11_isFerryLine 54 = .ok (.bipush 8, 2) := by decide +kernel
theorem dX11_isFerryLine_56 : decode cX11_isFerryLine 56 = .ok (.invokevirtual 104, 3) := by decide +kernel
theorem dX11_isFerryLine_59 : decode cX11_isFerryLine 59 = .ok (.ifCond .eq 20, 3) := by decide +kernel
theorem dX11_isFerryLine_62 : decode cX11_isFerryLine 62 = .ok (.aload_n 0, 1) := by decide +kernel
theorem dX11_isFerryLine_63 : decode cX11_isFerryLine 63 = .ok (.iload_n 1, 1) := by decide +kernel
theorem dX11_isFerryLine_64 : decode cX11_isFerryLine 64 = .ok (.iconst 4, 1) := by decide +kernel
theorem dX11_isFerryLine_65 : decode cX11_isFerryLine 65 = .ok (.iadd, 1) := by decide +kernel
theorem dX11_isFerryLine_66 : decode cX11_isFerryLine 66 = .ok (.iconst 1, 1) := by decide +kernel
theorem dX11_isFerryLine_67 : decode cX11_isFerryLine 67 = .ok (.bipush 9, 2) := by decide +kernel
theorem dX11_isFerryLine_69 : decode cX11_isFerryLine 69 = .ok (.invokevirtual 104, 3) := by decide +kernel
theorem dX11_isFerryLine_72 : decode cX11_isFerryLine 72 = .ok (.ifCond .eq 7, 3) := by decide +kernel
theorem dX11_isFerryLine_75 : decode cX11_isFerryLine 75 = .ok (.iconst 1, 1) := by decide +kernel
theorem dX11_isFerryLine_76 : decode cX11_isFerryLine 76 = .ok (.goto 4, 3) := by decide +kernel
theorem dX11_isFerryLine_79 : decode cX11_isFerryLine 79 = .ok (.iconst 0, 1) := by decide +kernel
theorem dX11_isFerryLine_80 : decode cX11_isFerryLine 80 = .ok (.ireturn, 1) := by decide +kernel
theorem dX11_isHat_0 : decode cX11_isHat 0 = .ok (.aload_n 0, 1) := by decide +kernel
theorem dX11_isHat_1 : decode cX11_isHat 1 = .ok (.iload_n 1, 1) := by decide +kernel
theorem dX11_isHat_2 : decode cX11_isHat 2 = .ok (.iconst 1, 1) := by decide +kernel
theorem dX11_isHat_3 : decode cX11_isHat 3 = .ok (.iadd, 1) := by decide +kernel
theorem dX11_isHat_4 : decode cX11_isHat 4 = .ok (.iconst 0, 1) := by decide +kernel
theorem dX11_isHat_5 : decode cX11_isHat 5 = .ok (.aload_n 0, 1) := by decide +kernel
theorem dX11_isHat_6 : decode cX11_isHat 6 = .ok (.getfield 101, 3) := by decide +kernel
theorem dX11_isHat_9 : decode cX11_isHat 9 = .ok (.iconst 1, 1) := by decide +kernel
theorem dX11_isHat_10 : decode cX11_isHat 10 = .ok (.isub, 1) := by decide +kernel
theorem dX11_isHat_11 : decode cX11_isHat 11 = .ok (.invokevirtual 104, 3) := by decide +kernel
theorem dX11_isHat_14 : decode cX11_isHat 14 = .ok (.ifCond .ne 5, 3) := by decide +kernel
theorem dX11_isHat_17 : decode cX11_isHat 17 = .ok (.iconst 0, 1) := by decide +kernel
theorem dX11_isHat_18 : decode cX11_isHat 18 = .ok (.ireturn, 1) := by decide +kernel
theorem dX11_isHat_19 : decode cX11_isHat 19 = .ok (.aload_n 0, 1) := by decide +kernel
theorem dX11_isHat_20 : decode cX11_isHat 20 = .ok (.getfield 19, 3) := by decide +kernel
theorem dX11_isHat_23 : decode cX11_isHat 23 = .ok (.aload_n 0, 1) := by decide +kernel
theorem dX11_isHat_24 : decode cX11_isHat 24 = .ok (.getfield 22, 3) := by decide +kernel
theorem dX11_isHat_27 : decode cX11_isHat 27 = .ok (.iload_n 1, 1) := by decide +kernel
theorem dX11_isHat_28 : decode cX11_isHat 28 = .ok (.iconst 1, 1) := by decide +kernel
theorem dX11_isHat_29 : decode cX11_isHat 29 = .ok (.iadd, 1) := by decide +kernel
theorem dX11_isHat_30 : decode cX11_isHat 30 = .ok (.iaload, 1) := by decide +kernel
theorem dX11_isHat_31 : decode cX11_isHat 31 = .ok (.iaload, 1) := by decide +kernel
theorem dX11_isHat_32 : decode cX11_isHat 32 = .ok (.iconst 2, 1) := by decide +kernel
theorem dX11_isHat_33 : decode cX11_isHat 33 = .ok (.if_icmp .ge 16, 3) := by decide +kernel
theorem dX11_isHat_36 : decode cX11_isHat 36 = .ok (.aload_n 0, 1) := by decide +kernel
theorem dX11_isHat_37 : decode cX11_isHat 37 = .ok (.iload_n 1, 1) := by decide +kernel
theorem dX11_isHat_38 : decode cX11_isHat 38 = .ok (.iconst 2, 1) := by decide +kernel
theorem dX11_isHat_39 : decode cX11_isHat 39 = .ok (.iadd, 1) := by decide +kernel
theorem dX11_isHat_40 : decode cX11_isHat 40 = .ok (.iconst 0, 1) := by decide +kernel
theorem dX11_isHat_41 : decode cX11_isHat 41 = .ok (.bipush 9, 2) := by decide +kernel
theorem dX11_isHat_43 : decode cX11_isHat 43 = .ok (.invokevirtual 104, 3) := by decide +kernel
theorem dX11_isHat_46 : decode cX11_isHat 46 = .ok (.goto 7, 3) := by decide +kernel
theorem dX11_isHat_49 : decode cX11_isHat 49 = .ok (.aload_n 0, 1) := by decide +kernel
theorem dX11_isHat_50 : decode cX11_isHat 50 = .ok (.invokevirtual 97, 3) := by decide +kernel
theorem dX11_isHat_53 : decode cX11_isHat 53 = .ok (.ireturn, 1) := by decide +kernel
theorem dX11_isLine_0 : decode cX11_isLine 0 = .ok (.aload_n 0, 1) := by decide +kernel
theorem dX11_isLine_1 : decode cX11_isLine 1 = .ok (.invokevirtual 94, 3) := by decide +kernel
theorem dX11_isLine_4 : decode cX11_isLine 4 = .ok (.aload_n 0, 1) := by decide +kernel
theorem dX11_isLine_5 : decode cX11_isLine 5 = .ok (.getfield 77, 3) := by decide +kernel
theorem dX11_isLine_8 : decode cX11_isLine 8 = .ok (.ldc2_w 110, 3) := by decide +kernel
theorem dX11_isLine_11 : decode cX11_isLine 11 = .ok (.lcmp, 1) := by decide +kernel
theorem dX11_isLine_12 : decode cX11_isLine 12 = .ok (.ifCond .ne 7, 3) := by decide +kernel
theorem dX11_isLine_15 : decode cX11_isLine 15 = .ok (.iconst 0, 1) := by decide +kernel
theorem dX11_isLine_16 : decode cX11_isLine 16 = .ok (.goto 79, 3) := by decide +kernel
theorem dX11_isLine_19 : decode cX11_isLine 19 = .ok (.aload_n 0, 1) := by decide +kernel
theorem dX11_isLine_20 : decode cX11_isLine 20 = .ok (.getfield 77, 3) := by decide +kernel
theorem dX11_isLine_23 : decode cX11_isLine 23 = .ok (.ldc2_w 112, 3) := by decide +kernel
theorem dX11_isLine_26 : decode cX11_isLine 26 = .ok (.lcmp, 1) := by decide +kernel
theorem dX11_isLine_27 : decode cX11_isLine 27 = .ok (.ifCond .ne 7, 3) := by decide +kernel
theorem dX11_isLine_30 : decode cX11_isLine 30 = .ok (.iconst 1, 1) := by decide +kernel
theorem dX11_isLine_31 : decode cX11_isLine 31 = .ok (.goto 64, 3) := by decide +kernel
theorem dX11_isLine_34 : decode cX11_isLine 34 = .ok (.aload_n 0, 1) := by decide +kernel
theorem dX11_isLine_35 : decode cX11_isLine 35 = .ok (.getfield 77, 3) := by decide +kernel
theorem dX11_isLine_38 : decode cX11_isLine 38 = .ok (.ldc2_w 114, 3) := by decide +kernel
theorem dX11_isLine_41 : decode cX11_isLine 41 = .ok (.lcmp, 1) := by decide +kernel
theorem dX11_isLine_42 : decode cX11_isLine 42 = .ok (.ifCond .ne 7, 3) := by decide +kernel
theorem dX11_isLine_45 : decode cX11_isLine 45 = .ok (.iconst 2, 1) := by decide +kernel
theorem dX11_isLine_46 : decode cX11_isLine 46 = .ok (.goto 49, 3) := by decide +kernel
theorem dX11_isLine_49 : decode cX11_isLine 49 = .ok (.aload_n 0, 1) := by decide +kernel
theorem dX11_isLine_50 : decode cX11_isLine 50 = .ok (.getfield 77, 3) := by decide +kernel
theorem dX11_isLine_53 : decode cX11_isLine 53 = .ok (.ldc2_w 116, 3) := by decide +kernel
theorem dX11_isLine_56 : decode cX11_isLine 56 = .ok (.lcmp, 1) := by decide +kernel
theorem dX11_isLine_57 : decode cX11_isLine 57 = .ok (.ifCond .ne 7, 3) := by decide +kernel
theorem dX11_isLine_60 : decode cX11_isLine 60 = .ok (.iconst 3, 1) := by decide +kernel
theorem dX11_isLine_61 : decode cX11_isLine 61 = .ok (.goto 34, 3) := by decide +kernel
theorem dX11_isLine_64 : decode cX11_isLine 64 = .ok (.aload_n 0, 1) := by decide +kernel
theorem dX11_isLine_65 : decode cX11_isLine 65 = .ok (.getfield 77, 3) := by decide +kernel
theorem dX11_isLine_68 : decode cX11_isLine 68 = .ok (.ldc2_w 118, 3) := by decide +kernel
theorem dX11_isLine_71 : decode cX11_isLine 71 = .ok (.lcmp, 1) := by decide +kernel
theorem dX11_isLine_72 : decode cX11_isLine 72 = .ok (.ifCond .ne 7, 3) := by decide +kernel
theorem dX11_isLine_75 : decode cX11_isLine 75 = .ok (.iconst 4, 1) := by decide +kernel
theorem dX11_isLine_76 : decode cX11_isLine 76 = .ok (.goto 19, 3) := by decide +kernel
theorem dX11_isLine_79 : decode cX11_isLine 79 = .ok (.aload_n 0, 1) := by decide +kernel
theorem dX11_isLine_80 : decode cX11_isLine 80 = .ok (.getfield 77, 3) := by decide +kernel
theorem dX11_isLine_83 : decode cX11_isLine 83 = .ok (.ldc2_w 120, 3) := by decide +kernel
theorem dX11_isLine_86 : decode cX11_isLine 86 = .ok (.lcmp, 1) := by decide +kernel
theorem dX11_isLine_87 : decode cX11_isLine 87 = .ok (.ifCond .ne 7, 3) := by decide +kernel
theorem dX11_isLine_90 : decode cX11_isLine 90 = .ok (.iconst 5, 1) := by decide +kernel
theorem dX11_isLine_91 : decode cX11_isLine 91 = .ok (.goto 4, 3) := by decide +kernel
theorem dX11_isLine_94 : decode cX11_isLine 94 = .ok (.iconst (-1), 1) := by decide +kernel
theorem dX11_isLine_95 : decode cX11_isLine 95 = .ok (.istore_n 2, 1) := by decide +kernel
theorem dX11_isLine_96 : decode cX11_isLine 96 = .ok (.aload_n 0, 1) := by decide +kernel
theorem dX11_isLine_97 : decode cX11_isLine 97 = .ok (.getfield 77, 3) := by decide +kernel
theorem dX11_isLine_100 : decode cX11_isLine 100 = .ok (.ldc2_w 122, 3) := by decide +kernel
theorem dX11_isLine_103 : decode cX11_isLine 103 = .ok (.lcmp, 1) := by decide +kernel
theorem dX11_isLine_104 : decode cX11_isLine 104 = .ok (.ifCond .ne 8, 3) := by decide +kernel
theorem dX11_isLine_107 : decode cX11_isLine 107 = .ok (.bipush 6, 2) := by decide +kernel
