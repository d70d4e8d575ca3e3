theorem dX8_least_0 : decode cX8_least 0 = .ok (.sipush (-1000), 3) := by decide +kernel
theorem dX8_least_3 : decode cX8_least 3 = .ok (.istore_n 3, 1) := by decide +kernel
theorem dX8_least_4 : decode cX8_least 4 = .ok (.bipush 63, 2) := by decide +kernel
theorem dX8_least_6 : decode cX8_least 6 = .ok (.istore 4, 2) := by decide +kernel
theorem dX8_least_8 : decode cX8_least 8 = .ok (.iload 4, 2) := by decide +kernel
theorem dX8_least_10 : decode cX8_least 10 = .ok (.ifCond .lt 56, 3) := by decide +kernel
theorem dX8_least_13 : decode cX8_least 13 = .ok (.iload_n 2, 1) := by decide +kernel
theorem dX8_least_14 : decode cX8_least 14 = .ok (.ifCond .eq 21, 3) := by decide +kernel
theorem dX8_least_17 : decode cX8_least 17 = .ok (.aload_n 0, 1) := by decide +kernel
theorem dX8_least_18 : decode cX8_least 18 = .ok (.getfield 7, 3) := by decide +kernel
theorem dX8_least_21 : decode cX8_least 21 = .ok (.bipush 64, 2) := by decide +kernel
theorem dX8_least_23 : decode cX8_least 23 = .ok (.iload_n 1, 1) := by decide +kernel
theorem dX8_least_24 : decode cX8_least 24 = .ok (.imul, 1) := by decide +kernel
theorem dX8_least_25 : decode cX8_least 25 = .ok (.iload 4, 2) := by decide +kernel
theorem dX8_least_27 : decode cX8_least 27 = .ok (.iadd, 1) := by decide +kernel
theorem dX8_least_28 : decode cX8_least 28 = .ok (.baload, 1) := by decide +kernel
theorem dX8_least_29 : decode cX8_least 29 = .ok (.ifCond .eq 29, 3) := by decide +kernel
theorem dX8_least_32 : decode cX8_least 32 = .ok (.goto 18, 3) := by decide +kernel
theorem dX8_least_35 : decode cX8_least 35 = .ok (.aload_n 0, 1) := by decide +kernel
theorem dX8_least_36 : decode cX8_least 36 = .ok (.getfield 13, 3) := by decide +kernel
theorem dX8_least_39 : decode cX8_least 39 = .ok (.bipush 64, 2) := by decide +kernel
theorem dX8_least_41 : decode cX8_least 41 = .ok (.iload_n 1, 1) := by decide +kernel
theorem dX8_least_42 : decode cX8_least 42 = .ok (.imul, 1) := by decide +kernel
theorem dX8_least_43 : decode cX8_least 43 = .ok (.iload 4, 2) := by decide +kernel
theorem dX8_least_45 : decode cX8_least 45 = .ok (.iadd, 1) := by decide +kernel
theorem dX8_least_46 : decode cX8_least 46 = .ok (.baload, 1) := by decide +kernel
theorem dX8_least_47 : decode cX8_least 47 = .ok (.ifCond .eq 11, 3) := by decide +kernel
theorem dX8_least_50 : decode cX8_least 50 = .ok (.iload 4, 2) := by decide +kernel
theorem dX8_least_52 : decode cX8_least 52 = .ok (.bipush 32, 2) := by decide +kernel
theorem dX8_least_54 : decode cX8_least 54 = .ok (.isub, 1) := by decide +kernel
theorem dX8_least_55 : decode cX8_least 55 = .ok (.goto 4, 3) := by decide +kernel
theorem dX8_least_58 : decode cX8_least 58 = .ok (.iload_n 3, 1) := by decide +kernel
theorem dX8_least_59 : decode cX8_least 59 = .ok (.istore_n 3, 1) := by decide +kernel
theorem dX8_least_60 : decode cX8_least 60 = .ok (.iinc 4 (-1), 3) := by decide +kernel
theorem dX8_least_63 : decode cX8_least 63 = .ok (.goto (-55), 3) := by decide +kernel
theorem dX8_least_66 : decode cX8_least 66 = .ok (.iload_n 3, 1) := by decide +kernel
theorem dX8_least_67 : decode cX8_least 67 = .ok (.ireturn, 1) := by decide +kernel
theorem dX8_most_0 : decode cX8_most 0 = .ok (.sipush (-1000), 3) := by decide +kernel
theorem dX8_most_3 : decode cX8_most 3 = .ok (.istore_n 3, 1) := by decide +kernel
theorem dX8_most_4 : decode cX8_most 4 = .ok (.iconst 0, 1) := by decide +kernel
theorem dX8_most_5 : decode cX8_most 5 = .ok (.istore 4, 2) := by decide +kernel
theorem dX8_most_7 : decode cX8_most 7 = .ok (.iload 4, 2) := by decide +kernel
theorem dX8_most_9 : decode cX8_most 9 = .ok (.bipush 64, 2) := by decide +kernel
theorem dX8_most_11 : decode cX8_most 11 = .ok (.if_icmp .ge 56, 3) := by decide +kernel
theorem dX8_most_14 : decode cX8_most 14 = .ok (.iload_n 2, 1) := by decide +kernel
theorem dX8_most_15 : decode cX8_most 15 = .ok (.ifCond .eq 21, 3) := by decide +kernel
theorem dX8_most_18 : decode cX8_most 18 = .ok (.aload_n 0, 1) := by decide +kernel
theorem dX8_most_19 : decode cX8_most 19 = .ok (.getfield 7, 3) := by decide +kernel
theorem dX8_most_22 : decode cX8_most 22 = .ok (.bipush 64, 2) := by decide +kernel
theorem dX8_most_24 : decode cX8_most 24 = .ok (.iload_n 1, 1) := by decide +kernel
theorem dX8_most_25 : decode cX8_most 25 = .ok (.imul, 1) := by decide +kernel
theorem dX8_most_26 : decode cX8_most 26 = .ok (.iload 4, 2) := by decide +kernel
theorem dX8_most_28 : decode cX8_most 28 = .ok (.iadd, 1) := by decide +kernel
theorem dX8_most_29 : decode cX8_most 29 = .ok (.baload, 1) := by decide +kernel
theorem dX8_most_30 : decode cX8_most 30 = .ok (.ifCond .eq 29, 3) := by decide +kernel
theorem dX8_most_33 : decode cX8_most 33 = .ok (.goto 18, 3) := by decide +kernel
theorem dX8_most_36 : decode cX8_most 36 = .ok (.aload_n 0, 1) := by decide +kernel
theorem dX8_most_37 : decode cX8_most 37 = .ok (.getfield 13, 3) := by decide +kernel
theorem dX8_most_40 : decode cX8_most 40 = .ok (.bipush 64, 2) := by decide +kernel
theorem dX8_most_42 : decode cX8_most 42 = .ok (.iload_n 1, 1) := by decide +kernel
theorem dX8_most_43 : decode cX8_most 43 = .ok (.imul, 1) := by decide +kernel
theorem dX8_most_44 : decode cX8_most 44 = .ok (.iload 4, 2) := by decide +kernel
theorem dX8_most_46 : decode cX8_most 46 = .ok (.iadd, 1) := by decide +kernel
theorem dX8_most_47 : decode cX8_most 47 = .ok (.baload, 1) := by decide +kernel
theorem dX8_most_48 : decode cX8_most 48 = .ok (.ifCond .eq 11, 3) := by decide +kernel
theorem dX8_most_51 : decode cX8_most 51 = .ok (.iload 4, 2) := by decide +kernel
theorem dX8_most_53 : decode cX8_most 53 = .ok (.bipush 32, 2) := by decide +kernel
theorem dX8_most_55 : decode cX8_most 55 = .ok (.isub, 1) := by decide +kernel
theorem dX8_most_56 : decode cX8_most 56 = .ok (.goto 4, 3) := by decide +kernel
theorem dX8_most_59 : decode cX8_most 59 = .ok (.iload_n 3, 1) := by decide +kernel
theorem dX8_most_60 : decode cX8_most 60 = .ok (.istore_n 3, 1) := by decide +kernel
theorem dX8_most_61 : decode cX8_most 61 = .ok (.iinc 4 1, 3) := by decide +kernel
theorem dX8_most_64 : decode cX8_most 64 = .ok (.goto (-57), 3) := by decide +kernel
theorem dX8_most_67 : decode cX8_most 67 = .ok (.iload_n 3, 1) := by decide +kernel
theorem dX8_most_68 : decode cX8_most 68 = .ok (.ireturn, 1) := by decide +kernel
theorem dX8_isAbout_0 : decode cX8_isAbout 0 = .ok (.aload_n 0, 1) := by decide +kernel
theorem dX8_isAbout_1 : decode cX8_isAbout 1 = .ok (.getfield 20, 3) := by decide +kernel
theorem dX8_isAbout_4 : decode cX8_isAbout 4 = .ok (.iconst 3, 1) := by decide +kernel
theorem dX8_isAbout_5 : decode cX8_isAbout 5 = .ok (.iload_n 1, 1) := by decide +kernel
theorem dX8_isAbout_6 : decode cX8_isAbout 6 = .ok (.imul, 1) := by decide +kernel
theorem dX8_isAbout_7 : decode cX8_isAbout 7 = .ok (.iaload, 1) := by decide +kernel
theorem dX8_isAbout_8 : decode cX8_isAbout 8 = .ok (.iload_n 2, 1) := by decide +kernel
theorem dX8_isAbout_9 : decode cX8_isAbout 9 = .ok (.if_icmp .eq 45, 3) := by decide +kernel
theorem dX8_isAbout_12 : decode cX8_isAbout 12 = .ok (.aload_n 0, 1) := by decide +kernel
theorem dX8_isAbout_13 : decode cX8_isAbout 13 = .ok (.getfield 20, 3) := by decide +kernel
theorem dX8_isAbout_16 : decode cX8_isAbout 16 = .ok (.iconst 3, 1) := by decide +kernel
theorem dX8_isAbout_17 : decode cX8_isAbout 17 = .ok (.iload_n 1, 1) := by decide +kernel
theorem dX8_isAbout_18 : decode cX8_isAbout 18 = .ok (.imul, 1) := by decide +kernel
theorem dX8_isAbout_19 : decode cX8_isAbout 19 = .ok (.iconst 1, 1) := by decide +kernel
theorem dX8_isAbout_20 : decode cX8_isAbout 20 = .ok (.iadd, 1) := by decide +kernel
theorem dX8_isAbout_21 : decode cX8_isAbout 21 = .ok (.iaload, 1) := by decide +kernel
theorem dX8_isAbout_22 : decode cX8_isAbout 22 = .ok (.iload_n 2, 1) := by decide +kernel
theorem dX8_isAbout_23 : decode cX8_isAbout 23 = .ok (.if_icmp .eq 31, 3) := by decide +kernel
theorem dX8_isAbout_26 : decode cX8_isAbout 26 = .ok (.aload_n 0, 1) := by decide +kernel
theorem dX8_isAbout_27 : decode cX8_isAbout 27 = .ok (.getfield 20, 3) := by decide +kernel
theorem dX8_isAbout_30 : decode cX8_isAbout 30 = .ok (.iconst 3, 1) := by decide +kernel
theorem dX8_isAbout_31 : decode cX8_isAbout 31 = .ok (.iload_n 1, 1) := by decide +kernel
theorem dX8_isAbout_32 : decode cX8_isAbout 32 = .ok (.imul, 1) := by decide +kernel
theorem dX8_isAbout_33 : decode cX8_isAbout 33 = .ok (.iconst 2, 1) := by decide +kernel
theorem dX8_isAbout_34 : decode cX8_isAbout 34 = .ok (.iadd, 1) := by decide +kernel
theorem dX8_isAbout_35 : decode cX8_isAbout 35 = .ok (.iaload, 1) := by decide +kernel
theorem dX8_isAbout_36 : decode cX8_isAbout 36 = .ok (.iload_n 2, 1) := by decide +kernel
theorem dX8_isAbout_37 : decode cX8_isAbout 37 = .ok (.if_icmp .eq 17, 3) := by decide +kernel
theorem dX8_isAbout_40 : decode cX8_isAbout 40 = .ok (.aload_n 0, 1) := by decide +kernel
theorem dX8_isAbout_41 : decode cX8_isAbout 41 = .ok (.getfield 26, 3) := by decide +kernel
theorem dX8_isAbout_44 : decode cX8_isAbout 44 = .ok (.bipush 8, 2) := by decide +kernel
theorem dX8_isAbout_46 : decode cX8_isAbout 46 = .ok (.iload_n 1, 1) := by decide +kernel
theorem dX8_isAbout_47 : decode cX8_isAbout 47 = .ok (.imul, 1) := by decide +kernel
theorem dX8_isAbout_48 : decode cX8_isAbout 48 = .ok (.iload_n 2, 1) := by decide +kernel
theorem dX8_isAbout_49 : decode cX8_isAbout 49 = .ok (.iadd, 1) := by decide +kernel
theorem dX8_isAbout_50 : decode cX8_isAbout 50 = .ok (.iaload, 1) := by decide +kernel
theorem dX8_isAbout_51 : decode cX8_isAbout 51 = .ok (.ifCond .eq 7, 3) := by decide +kernel
theorem dX8_isAbout_54 : decode cX8_isAbout 54 = .ok (.iconst 1, 1) := by decide +kernel
theorem dX8_isAbout_55 : decode cX8_isAbout 55 = .ok (.goto 4, 3) := by decide +kernel
theorem dX8_isAbout_58 : decode cX8_isAbout 58 = .ok (.iconst 0, 1) := by decide +kernel
theorem dX8_isAbout_59 : decode cX8_isAbout 59 = .ok (.ireturn, 1) := by decide +kernel
theorem dX8_bounds_0 : decode cX8_bounds 0 = .ok (.iconst 0, 1) := by decide +kernel
theorem dX8_bounds_1 : decode cX8_bounds 1 = .ok (.istore_n 1, 1) := by decide +kernel
theorem dX8_bounds_2 : decode cX8_bounds 2 = .ok (.iload_n 1, 1) := by decide +kernel
theorem dX8_bounds_3 : decode cX8_bounds 3 = .ok (.aload_n 0, 1) := by decide +kernel
theorem dX8_bounds_4 : decode cX8_bounds 4 = .ok (.getfield 57, 3) := by decide +kernel
theorem dX8_bounds_7 : decode cX8_bounds 7 = .ok (.if_icmp .ge 33, 3) := by decide +kernel
theorem dX8_bounds_10 : decode cX8_bounds 10 = .ok (.aload_n 0, 1) := by decide +kernel
theorem dX8_bounds_11 : decode cX8_bounds 11 = .ok (.getfield 51, 3) := by decide +kernel
theorem dX8_bounds_14 : decode cX8_bounds 14 = .ok (.iload_n 1, 1) := by decide +kernel
theorem dX8_bounds_15 : decode cX8_bounds 15 = .ok (.aload_n 0, 1) := by decide +kernel
theorem dX8_bounds_16 : decode cX8_bounds 16 = .ok (.iload_n 1, 1) := by decide +kernel
theorem dX8_bounds_17 : decode cX8_bounds 17 = .ok (.iconst 0, 1) := by decide +kernel
theorem dX8_bounds_18 : decode cX8_bounds 18 = .ok (.invokevirtual 121, 3) := by decide +kernel
theorem dX8_bounds_21 : decode cX8_bounds 21 = .ok (.iastore, 1) := by decide +kernel
theorem dX8_bounds_22 : decode cX8_bounds 22 = .ok (.aload_n 0, 1) := by decide +kernel
theorem dX8_bounds_23 : decode cX8_bounds 23 = .ok (.getfield 54, 3) := by decide +kernel
theorem dX8_bounds_26 : decode cX8_bounds 26 = .ok (.iload_n 1, 1) := by decide +kernel
theorem dX8_bounds_27 : decode cX8_bounds 27 = .ok (.aload_n 0, 1) := by decide +kernel
theorem dX8_bounds_28 : decode cX8_bounds 28 = .ok (.iload_n 1, 1) := by decide +kernel
theorem dX8_bounds_29 : decode cX8_bounds 29 = .ok (.iconst 0, 1) := by decide +kernel
theorem dX8_bounds_30 : decode cX8_bounds 30 = .ok (.invokevirtual 124, 3) := by decide +kernel
theorem dX8_bounds_33 : decode cX8_bounds 33 = .ok (.iastore, 1) := by decide +kernel
theorem dX8_bounds_34 : decode cX8_bounds 34 = .ok (.iinc 1 1, 3) := by decide +kernel
theorem dX8_bounds_37 : decode cX8_bounds 37 = .ok (.goto (-35), 3) := by decide +kernel
theorem dX8_bounds_40 : decode cX8_bounds 40 = .ok (.return_, 1) := by decide +kernel
theorem dX8_take_0 : decode cX8_take 0 = .ok (.bipush 16, 2) := by decide +kernel
theorem dX8_take_2 : decode cX8_take 2 = .ok (.aload_n 0, 1) := by decide +kernel
theorem dX8_take_3 : decode cX8_take 3 = .ok (.getfield 70, 3) := by decide +kernel
theorem dX8_take_6 : decode cX8_take 6 = .ok (.imul, 1) := by decide +kernel
theorem dX8_take_7 : decode cX8_take 7 = .ok (.istore 4, 2) := by decide +kernel
theorem dX8_take_9 : decode cX8_take 9 = .ok (.iconst 0, 1) := by decide +kernel
theorem dX8_take_10 : decode cX8_take 10 = .ok (.istore 5, 2) := by decide +kernel
theorem dX8_take_12 : decode cX8_take 12 = .ok (.iload 5, 2) := by decide +kernel
theorem dX8_take_14 : decode cX8_take 14 = .ok (.bipush 16, 2) := by decide +kernel
theorem dX8_take_16 : decode cX8_take 16 = .ok (.if_icmp .ge 151, 3) := by decide +kernel
theorem dX8_take_19 : decode cX8_take 19 = .ok (.iload 5, 2) := by decide +kernel
theorem dX8_take_21 : decode cX8_take 21 = .ok (.iconst 2, 1) := by decide +kernel
theorem dX8_take_22 : decode cX8_take 22 = .ok (.idiv, 1) := by decide +kernel
theorem dX8_take_23 : decode cX8_take 23 = .ok (.istore 6, 2) := by decide +kernel
theorem dX8_take_25 : decode cX8_take 25 = .ok (.iload 6, 2) := by decide +kernel
theorem dX8_take_27 : decode cX8_take 27 = .ok (.aload_n 0, 1) := by decide +kernel
theorem dX8_take_28 : decode cX8_take 28 = .ok (.getfield 57, 3) := by decide +kernel
theorem dX8_take_31 : decode cX8_take 31 = .ok (.if_icmp .ge 23, 3) := by decide +kernel
theorem dX8_take_34 : decode cX8_take 34 = .ok (.iload 6, 2) := by decide +kernel
theorem dX8_take_36 : decode cX8_take 36 = .ok (.iload_n 2, 1) := by decide +kernel
theorem dX8_take_37 : decode cX8_take 37 = .ok (.if_icmp .eq 17, 3) := by decide +kernel
theorem dX8_take_40 : decode cX8_take 40 = .ok (.aload_n 0, 1) := by decide +kernel
theorem dX8_take_41 : decode cX8_take 41 = .ok (.iload_n 1, 1) := by decide +kernel
theorem dX8_take_42 : decode cX8_take 42 = .ok (.iload 6, 2) := by decide +kernel
theorem dX8_take_44 : decode cX8_take 44 = .ok (.invokevirtual 127, 3) := by decide +kernel
theorem dX8_take_47 : decode cX8_take 47 = .ok (.ifCond .eq 7, 3) := by decide +kernel
theorem dX8_take_50 : decode cX8_take 50 = .ok (.iconst 1, 1) := by decide +kernel
theorem dX8_take_51 : decode cX8_take 51 = .ok (.goto 4, 3) := by decide +kernel
theorem dX8_take_54 : decode cX8_take 54 = .ok (.iconst 0, 1) := by decide +kernel
theorem dX8_take_55 : decode cX8_take 55 = .ok (.istore 7, 2) := by decide +kernel
theorem dX8_take_57 : decode cX8_take 57 = .ok (.iload 7, 2) := by decide +kernel
theorem dX8_take_59 : decode cX8_take 59 = .ok (.ifCond .ne 7, 3) := by decide +kernel
theorem dX8_take_62 : decode cX8_take 62 = .ok (.iconst 0, 1) := by decide +kernel
theorem dX8_take_63 : decode cX8_take 63 = .ok (.goto 27, 3) := by decide +kernel
theorem dX8_take_66 : decode cX8_take 66 = .ok (.iload 5, 2) := by decide +kernel
theorem dX8_take_68 : decode cX8_take 68 = .ok (.iconst 2, 1) := by decide +kernel
theorem dX8_take_69 : decode cX8_take 69 = .ok (.irem, 1) := by decide +kernel
theorem dX8_take_70 : decode cX8_take 70 = .ok (.ifCond .ne 13, 3) := by decide +kernel
theorem dX8_take_73 : decode cX8_take 73 = .ok (.aload_n 0, 1) := by decide +kernel
theorem dX8_take_74 : decode cX8_take 74 = .ok (.getfield 51, 3) := by decide +kernel
theorem dX8_take_77 : decode cX8_take 77 = .ok (.iload 6, 2) := by decide +kernel
theorem dX8_take_79 : decode cX8_take 79 = .ok (.iaload, 1) := by decide +kernel
theorem dX8_take_80 : decode cX8_take 80 = .ok (.goto 10, 3) := by decide +kernel
theorem dX8_take_83 : decode cX8_take 83 = .ok (.aload_n 0, 1) := by decide +kernel
theorem dX8_take_84 : decode cX8_take 84 = .ok (.getfield 54, 3) := by decide +kernel
theorem dX8_take_87 : decode cX8_take 87 = .ok (.iload 6, 2) := by decide +kernel
theorem dX8_take_89 : decode cX8_take 89 = .ok (.iaload, 1) := by decide +kernel
theorem dX8_take_90 : decode cX8_take 90 = .ok (.istore 8, 2) := by decide +kernel
theorem dX8_take_92 : decode cX8_take 92 = .ok (.iload 7, 2) := by decide +kernel
theorem dX8_take_94 : decode cX8_take 94 = .ok (.ifCond .ne 7, 3) := by decide +kernel
theorem dX8_take_97 : decode cX8_take 97 = .ok (.iconst 0, 1) := by decide +kernel
theorem dX8_take_98 : decode cX8_take 98 = .ok (.goto 27, 3) := by decide +kernel
theorem dX8_take_101 : decode cX8_take 101 = .ok (.iload 5, 2) := by decide +kernel
theorem dX8_take_103 : decode cX8_take 103 = .ok (.iconst 2, 1) := by decide +kernel
theorem dX8_take_104 : decode cX8_take 104 = .ok (.irem, 1) := by decide +kernel
theorem dX8_take_105 : decode cX8_take 105 = .ok (.ifCond .ne 13, 3) := by decide +kernel
theorem dX8_take_108 : decode cX8_take 108 = .ok (.aload_n 0, 1) := by decide +kernel
theorem dX8_take_109 : decode cX8_take 109 = .ok (.iload 6, 2) := by decide +kernel
theorem dX8_take_111 : decode cX8_take 111 = .ok (.iconst 1, 1) := by decide +kernel
theorem dX8_take_112 : decode cX8_take 112 = .ok (.invokevirtual 121, 3) := by decide +kernel
theorem dX8_take_115 : decode cX8_take 115 = .ok (.goto 10, 3) := by decide +kernel
theorem dX8_take_118 : decode cX8_take 118 = .ok (.aload_n 0, 1) := by decide +kernel
theorem dX8_take_119 : decode cX8_take 119 = .ok (.iload 6, 2) := by decide +kernel
theorem dX8_take_121 : decode cX8_take 121 = .ok (.iconst 1, 1) := by decide +kernel
theorem dX8_take_122 : decode cX8_take 122 = .ok (.invokevirtual 124, 3) := by decide +kernel
theorem dX8_take_125 : decode cX8_take 125 = .ok (.istore 9, 2) := by decide +kernel
theorem dX8_take_127 : decode cX8_take 127 = .ok (.aload_n 0, 1) := by decide +kernel
theorem dX8_take_128 : decode cX8_take 128 = .ok (.getfield 45, 3) := by decide +kernel
theorem dX8_take_131 : decode cX8_take 131 = .ok (.iload 4, 2) := by decide +kernel
theorem dX8_take_133 : decode cX8_take 133 = .ok (.iload 5, 2) := by decide +kernel
theorem dX8_take_135 : decode cX8_take 135 = .ok (.iadd, 1) := by decide +kernel
theorem dX8_take_136 : decode cX8_take 136 = .ok (.iload 8, 2) := by decide +kernel
theorem dX8_take_138 : decode cX8_take 138 = .ok (.iload 9, 2) := by decide +kernel
theorem dX8_take_140 : decode cX8_take 140 = .ok (.if_icmp .eq 7, 3) := by decide +kernel
theorem dX8_take_143 : decode cX8_take 143 = .ok (.iconst 1, 1) := by decide +kernel
theorem dX8_take_144 : decode cX8_take 144 = .ok (.goto 4, 3) := by decide +kernel
theorem dX8_take_147 : decode cX8_take 147 = .ok (.iconst 0, 1) := by decide +kernel
theorem dX8_take_148 : decode cX8_take 148 = .ok (.bastore, 1) := by decide +kernel
theorem dX8_take_149 : decode cX8_take 149 = .ok (.aload_n 0, 1) := by decide +kernel
theorem dX8_take_150 : decode cX8_take 150 = .ok (.getfield 48, 3) := by decide +kernel
theorem dX8_take_153 : decode cX8_take 153 = .ok (.iload 4, 2) := by decide +kernel
theorem dX8_take_155 : decode cX8_take 155 = .ok (.iload 5, 2) := by decide +kernel
theorem dX8_take_157 : decode cX8_take 157 = .ok (.iadd, 1) := by decide +kernel
theorem dX8_take_158 : decode cX8_take 158 = .ok (.iload 8, 2) := by decide +kernel
theorem dX8_take_160 : decode cX8_take 160 = .ok (.iastore, 1) := by decide +kernel
theorem dX8_take_161 : decode cX8_take 161 = .ok (.iinc 5 1, 3) := by decide +kernel
theorem dX8_take_164 : decode cX8_take 164 = .ok (.goto (-152), 3) := by decide +kernel
theorem dX8_take_167 : decode cX8_take 167 = .ok (.bipush 15, 2) := by decide +kernel
theorem dX8_take_169 : decode cX8_take 169 = .ok (.istore 5, 2) := by decide +kernel
theorem dX8_take_171 : decode cX8_take 171 = .ok (.iload 5, 2) := by decide +kernel
theorem dX8_take_173 : decode cX8_take 173 = .ok (.ifCond .lt 116, 3) := by decide +kernel
theorem dX8_take_176 : decode cX8_take 176 = .ok (.aload_n 0, 1) := by decide +kernel
theorem dX8_take_177 : decode cX8_take 177 = .ok (.getfield 45, 3) := by decide +kernel
theorem dX8_take_180 : decode cX8_take 180 = .ok (.iload 4, 2) := by decide +kernel
theorem dX8_take_182 : decode cX8_take 182 = .ok (.iload 5, 2) := by decide +kernel
theorem dX8_take_184 : decode cX8_take 184 = .ok (.iadd, 1) := by decide +kernel
theorem dX8_take_185 : decode cX8_take 185 = .ok (.baload, 1) := by decide +kernel
theorem dX8_take_186 : decode cX8_take 186 = .ok (.ifCond .eq 97, 3) := by decide +kernel
theorem dX8_take_189 : decode cX8_take 189 = .ok (.iload 5, 2) := by decide +kernel
theorem dX8_take_191 : decode cX8_take 191 = .ok (.iconst 2, 1) := by decide +kernel
theorem dX8_take_192 : decode cX8_take 192 = .ok (.idiv, 1) := by decide +kernel
theorem dX8_take_193 : decode cX8_take 193 = .ok (.istore 6, 2) := by decide +kernel
theorem dX8_take_195 : decode cX8_take 195 = .ok (.aload_n 0, 1) := by decide +kernel
theorem dX8_take_196 : decode cX8_take 196 = .ok (.getfield 48, 3) := by decide +kernel
theorem dX8_take_199 : decode cX8_take 199 = .ok (.iload 4, 2) := by decide +kernel
theorem dX8_take_201 : decode cX8_take 201 = .ok (.iload 5, 2) := by decide +kernel
theorem dX8_take_203 : decode cX8_take 203 = .ok (.iadd, 1) := by decide +kernel
theorem dX8_take_204 : decode cX8_take 204 = .ok (.iaload, 1) := by decide +kernel
theorem dX8_take_205 : decode cX8_take 205 = .ok (.istore 7, 2) := by decide +kernel
theorem dX8_take_207 : decode cX8_take 207 = .ok (.aload_n 0, 1) := by decide +kernel
theorem dX8_take_208 : decode cX8_take 208 = .ok (.iload 5, 2) := by decide +kernel
theorem dX8_take_210 : decode cX8_take 210 = .ok (.iload 5, 2) := by decide +kernel
theorem dX8_take_212 : decode cX8_take 212 = .ok (.iconst 2, 1) := by decide +kernel
theorem dX8_take_213 : decode cX8_take 213 = .ok (.irem, 1) := by decide +kernel
theorem dX8_take_214 : decode cX8_take 214 = .ok (.ifCond .ne 13, 3) := by decide +kernel
theorem dX8_take_217 : decode cX8_take 217 = .ok (.aload_n 0, 1) := by decide +kernel
theorem dX8_take_218 : decode cX8_take 218 = .ok (.iload 6, 2) := by decide +kernel
theorem dX8_take_220 : decode cX8_take 220 = .ok (.iconst 1, 1) := by decide +kernel
theorem dX8_take_221 : decode cX8_take 221 = .ok (.invokevirtual 121, 3) := by decide +kernel
theorem dX8_take_224 : decode cX8_take 224 = .ok (.goto 10, 3) := by decide +kernel
theorem dX8_take_227 : decode cX8_take 227 = .ok (.aload_n 0, 1) := by decide +kernel
theorem dX8_take_228 : decode cX8_take 228 = .ok (.iload 6, 2) := by decide +kernel
theorem dX8_take_230 : decode cX8_take 230 = .ok (.iconst 1, 1) := by decide +kernel
theorem dX8_take_231 : decode cX8_take 231 = .ok (.invokevirtual 124, 3) := by decide +kernel
theorem dX8_take_234 : decode cX8_take 234 = .ok (.invokevirtual 130, 3) := by decide +kernel
theorem dX8_take_237 : decode cX8_take 237 = .ok (.aload_n 0, 1) := by decide +kernel
theorem dX8_take_238 : decode cX8_take 238 = .ok (.getfield 45, 3) := by decide +kernel
theorem dX8_take_241 : decode cX8_take 241 = .ok (.iload 4, 2) := by decide +kernel
theorem dX8_take_243 : decode cX8_take 243 = .ok (.iload 5, 2) := by decide +kernel
theorem dX8_take_245 : decode cX8_take 245 = .ok (.iadd, 1) := by decide +kernel
theorem dX8_take_246 : decode cX8_take 246 = .ok (.aload_n 0, 1) := by decide +kernel
theorem dX8_take_247 : decode cX8_take 247 = .ok (.iload_n 1, 1) := by decide +kernel
theorem dX8_take_248 : decode cX8_take 248 = .ok (.iload_n 2, 1) := by decide +kernel
theorem dX8_take_249 : decode cX8_take 249 = .ok (.iload_n 3, 1) := by decide +kernel
theorem dX8_take_250 : decode cX8_take 250 = .ok (.invokevirtual 134, 3) := by decide +kernel
theorem dX8_take_253 : decode cX8_take 253 = .ok (.ifCond .ne 7, 3) := by decide +kernel
theorem dX8_take_256 : decode cX8_take 256 = .ok (.iconst 1, 1) := by decide +kernel
theorem dX8_take_257 : decode cX8_take 257 = .ok (.goto 4, 3) := by decide +kernel
theorem dX8_take_260 : decode cX8_take 260 = .ok (.iconst 0, 1) := by decide +kernel
theorem dX8_take_261 : decode cX8_take 261 = .ok (.bastore, 1) := by decide +kernel
theorem dX8_take_262 : decode cX8_take 262 = .ok (.aload_n 0, 1) := by decide +kernel
theorem dX8_take_263 : decode cX8_take 263 = .ok (.getfield 45, 3) := by decide +kernel
theorem dX8_take_266 : decode cX8_take 266 = .ok (.iload 4, 2) := by decide +kernel
theorem dX8_take_268 : decode cX8_take 268 = .ok (.iload 5, 2) := by decide +kernel
theorem dX8_take_270 : decode cX8_take 270 = .ok (.iadd, 1) := by decide +kernel
theorem dX8_take_271 : decode cX8_take 271 = .ok (.baload, 1) := by decide +kernel
theorem dX8_take_272 : decode cX8_take 272 = .ok (.ifCond .eq 11, 3) := by decide +kernel
theorem dX8_take_275 : decode cX8_take 275 = .ok (.aload_n 0, 1) := by decide +kernel
theorem dX8_take_276 : decode cX8_take 276 = .ok (.iload 5, 2) := by decide +kernel
theorem dX8_take_278 : decode cX8_take 278 = .ok (.iload 7, 2) := by decide +kernel
theorem dX8_take_280 : decode cX8_take 280 = .ok (.invokevirtual 130, 3) := by decide +kernel
theorem dX8_take_283 : decode cX8_take 283 = .ok (.iinc 5 (-1), 3) := by decide +kernel
theorem dX8_take_286 : decode cX8_take 286 = .ok (.goto (-115), 3) := by decide +kernel
theorem dX8_take_289 : decode cX8_take 289 = .ok (.aload_n 0, 1) := by decide +kernel
theorem dX8_take_290 : decode cX8_take 290 = .ok (.getfield 33, 3) := by decide +kernel
theorem dX8_take_293 : decode cX8_take 293 = .ok (.aload_n 0, 1) := by decide +kernel
theorem dX8_take_294 : decode cX8_take 294 = .ok (.getfield 70, 3) := by decide +kernel
theorem dX8_take_297 : decode cX8_take 297 = .ok (.iload_n 1, 1) := by decide +kernel
theorem dX8_take_298 : decode cX8_take 298 = .ok (.iastore, 1) := by decide +kernel
theorem dX8_take_299 : decode cX8_take 299 = .ok (.aload_n 0, 1) := by decide +kernel
theorem dX8_take_300 : decode cX8_take 300 = .ok (.getfield 36, 3) := by decide +kernel
theorem dX8_take_303 : decode cX8_take 303 = .ok (.aload_n 0, 1) := by decide +kernel
theorem dX8_take_304 : decode cX8_take 304 = .ok (.getfield 70, 3) := by decide +kernel
theorem dX8_take_307 : decode cX8_take 307 = .ok (.iload_n 2, 1) := by decide +kernel
theorem dX8_take_308 : decode cX8_take 308 = .ok (.iastore, 1) := by decide +kernel
theorem dX8_take_309 : decode cX8_take 309 = .ok (.aload_n 0, 1) := by decide +kernel
theorem dX8_take_310 : decode cX8_take 310 = .ok (.getfield 39, 3) := by decide +kernel
theorem dX8_take_313 : decode cX8_take 313 = .ok (.aload_n 0, 1) := by decide +kernel
theorem dX8_take_314 : decode cX8_take 314 = .ok (.getfield 70, 3) := by decide +kernel
theorem dX8_take_317 : decode cX8_take 317 = .ok (.iload_n 3, 1) := by decide +kernel
theorem dX8_take_318 : decode cX8_take 318 = .ok (.iastore, 1) := by decide +kernel
theorem dX8_take_319 : decode cX8_take 319 = .ok (.aload_n 0, 1) := by decide +kernel
theorem dX8_take_320 : decode cX8_take 320 = .ok (.getfield 42, 3) := by decide +kernel
theorem dX8_take_323 : decode cX8_take 323 = .ok (.aload_n 0, 1) := by decide +kernel
theorem dX8_take_324 : decode cX8_take 324 = .ok (.getfield 70, 3) := by decide +kernel
theorem dX8_take_327 : decode cX8_take 327 = .ok (.aload_n 0, 1) := by decide +kernel
theorem dX8_take_328 : decode cX8_take 328 = .ok (.getfield 67, 3) := by decide +kernel
theorem dX8_take_331 : decode cX8_take 331 = .ok (.iastore, 1) := by decide +kernel
theorem dX8_take_332 : decode cX8_take 332 = .ok (.aload_n 0, 1) := by decide +kernel
theorem dX8_take_333 : decode cX8_take 333 = .ok (.dup, 1) := by decide +kernel
theorem dX8_take_334 : decode cX8_take 334 = .ok (.getfield 70, 3) := by decide +kernel
theorem dX8_take_337 : decode cX8_take 337 = .ok (.iconst 1, 1) := by decide +kernel
theorem dX8_take_338 : decode cX8_take 338 = .ok (.iadd, 1) := by decide +kernel
theorem dX8_take_339 : decode cX8_take 339 = .ok (.putfield 70, 3) := by decide +kernel
theorem dX8_take_342 : decode cX8_take 342 = .ok (.aload_n 0, 1) := by decide +kernel
theorem dX8_take_343 : decode cX8_take 343 = .ok (.getfield 13, 3) := by decide +kernel
theorem dX8_take_346 : decode cX8_take 346 = .ok (.bipush 64, 2) := by decide +kernel
theorem dX8_take_348 : decode cX8_take 348 = .ok (.iload_n 2, 1) := by decide +kernel
theorem dX8_take_349 : decode cX8_take 349 = .ok (.imul, 1) := by decide +kernel
theorem dX8_take_350 : decode cX8_take 350 = .ok (.iload_n 3, 1) := by decide +kernel
theorem dX8_take_351 : decode cX8_take 351 = .ok (.iadd, 1) := by decide +kernel
theorem dX8_take_352 : decode cX8_take 352 = .ok (.bipush 32, 2) := by decide +kernel
theorem dX8_take_354 : decode cX8_take 354 = .ok (.iadd, 1) := by decide +kernel
theorem dX8_take_355 : decode cX8_take 355 = .ok (.iconst 0, 1) := by decide +kernel
theorem dX8_take_356 : decode cX8_take 356 = .ok (.bastore, 1) := by decide +kernel
theorem dX8_take_357 : decode cX8_take 357 = .ok (.aload_n 0, 1) := by decide +kernel
theorem dX8_take_358 : decode cX8_take 358 = .ok (.invokevirtual 137, 3) := by decide +kernel
theorem dX8_take_361 : decode cX8_take 361 = .ok (.return_, 1) := by decide +kernel
theorem dX8_setBound_0 : decode cX8_setBound 0 = .ok (.iload_n 1, 1) := by decide +kernel
theorem dX8_setBound_1 : decode cX8_setBound 1 = .ok (.iconst 2, 1) := by decide +kernel
theorem dX8_setBound_2 : decode cX8_setBound 2 = .ok (.irem, 1) := by decide +kernel
theorem dX8_setBound_3 : decode cX8_setBound 3 = .ok (.ifCond .ne 15, 3) := by decide +kernel
theorem dX8_setBound_6 : decode cX8_setBound 6 = .ok (.aload_n 0, 1) := by decide +kernel
theorem dX8_setBound_7 : decode cX8_setBound 7 = .ok (.getfield 51, 3) := by decide +kernel
theorem dX8_setBound_10 : decode cX8_setBound 10 = .ok (.iload_n 1, 1) := by decide +kernel
theorem dX8_setBound_11 : decode cX8_setBound 11 = .ok (.iconst 2, 1) := by decide +kernel
theorem dX8_setBound_12 : decode cX8_setBound 12 = .ok (.idiv, 1) := by decide +kernel
theorem dX8_setBound_13 : decode cX8_setBound 13 = .ok (.iload_n 2, 1) := by decide +kernel
theorem dX8_setBound_14 : decode cX8_setBound 14 = .ok (.iastore, 1) := by decide +kernel
theorem dX8_setBound_15 : decode cX8_setBound 15 = .ok (.goto 12, 3) := by decide +kernel
theorem dX8_setBound_18 : decode cX8_setBound 18 = .ok (.aload_n 0, 1) := by decide +kernel
theorem dX8_setBound_19 : decode cX8_setBound 19 = .ok (.getfield 54, 3) := by decide +kernel
theorem dX8_setBound_22 : decode cX8_setBound 22 = .ok (.iload_n 1, 1) := by decide +kernel
theorem dX8_setBound_23 : decode cX8_setBound 23 = .ok (.iconst 2, 1) := by decide +kernel
theorem dX8_setBound_24 : decode cX8_setBound 24 = .ok (.idiv, 1) := by decide +kernel
theorem dX8_setBound_25 : decode cX8_setBound 25 = .ok (.iload_n 2, 1) := by decide +kernel
theorem dX8_setBound_26 : decode cX8_setBound 26 = .ok (.iastore, 1) := by decide +kernel
theorem dX8_setBound_27 : decode cX8_setBound 27 = .ok (.return_, 1) := by decide +kernel
theorem dX8_byRow_0 : decode cX8_byRow 0 = .ok (.iconst 0, 1) := by decide +kernel
theorem dX8_byRow_1 : decode cX8_byRow 1 = .ok (.istore_n 2, 1) := by decide +kernel
theorem dX8_byRow_2 : decode cX8_byRow 2 = .ok (.iload_n 2, 1) := by decide +kernel
theorem dX8_byRow_3 : decode cX8_byRow 3 = .ok (.aload_n 0, 1) := by decide +kernel
theorem dX8_byRow_4 : decode cX8_byRow 4 = .ok (.getfield 57, 3) := by decide +kernel
theorem dX8_byRow_7 : decode cX8_byRow 7 = .ok (.if_icmp .ge 91, 3) := by decide +kernel
theorem dX8_byRow_10 : decode cX8_byRow 10 = .ok (.aload_n 0, 1) := by decide +kernel
theorem dX8_byRow_11 : decode cX8_byRow 11 = .ok (.getfield 29, 3) := by decide +kernel
theorem dX8_byRow_14 : decode cX8_byRow 14 = .ok (.sipush (-1000), 3) := by decide +kernel
theorem dX8_byRow_17 : decode cX8_byRow 17 = .ok (.if_icmp .ne 81, 3) := by decide +kernel
theorem dX8_byRow_20 : decode cX8_byRow 20 = .ok (.bipush (-32), 2) := by decide +kernel
theorem dX8_byRow_22 : decode cX8_byRow 22 = .ok (.istore_n 3, 1) := by decide +kernel
theorem dX8_byRow_23 : decode cX8_byRow 23 = .ok (.iload_n 3, 1) := by decide +kernel
theorem dX8_byRow_24 : decode cX8_byRow 24 = .ok (.bipush 31, 2) := by decide +kernel
theorem dX8_byRow_26 : decode cX8_byRow 26 = .ok (.if_icmp .gt 66, 3) := by decide +kernel
theorem dX8_byRow_29 : decode cX8_byRow 29 = .ok (.aload_n 0, 1) := by decide +kernel
theorem dX8_byRow_30 : decode cX8_byRow 30 = .ok (.iload_n 1, 1) := by decide +kernel
theorem dX8_byRow_31 : decode cX8_byRow 31 = .ok (.iload_n 2, 1) := by decide +kernel
theorem dX8_byRow_32 : decode cX8_byRow 32 = .ok (.invokevirtual 127, 3) := by decide +kernel
theorem dX8_byRow_35 : decode cX8_byRow 35 = .ok (.ifCond .eq 57, 3) := by decide +kernel
theorem dX8_byRow_38 : decode cX8_byRow 38 = .ok (.aload_n 0, 1) := by decide +kernel
theorem dX8_byRow_39 : decode cX8_byRow 39 = .ok (.getfield 13, 3) := by decide +kernel
theorem dX8_byRow_42 : decode cX8_byRow 42 = .ok (.bipush 64, 2) := by decide +kernel
theorem dX8_byRow_44 : decode cX8_byRow 44 = .ok (.iload_n 2, 1) := by decide +kernel
theorem dX8_byRow_45 : decode cX8_byRow 45 = .ok (.imul, 1) := by decide +kernel
theorem dX8_byRow_46 : decode cX8_byRow 46 = .ok (.iload_n 3, 1) := by decide +kernel
theorem dX8_byRow_47 : decode cX8_byRow 47 = .ok (.iadd, 1) := by decide +kernel
theorem dX8_byRow_48 : decode cX8_byRow 48 = .ok (.bipush 32, 2) := by decide +kernel
theorem dX8_byRow_50 : decode cX8_byRow 50 = .ok (.iadd, 1) := by decide +kernel
theorem dX8_byRow_51 : decode cX8_byRow 51 = .ok (.baload, 1) := by decide +kernel
theorem dX8_byRow_52 : decode cX8_byRow 52 = .ok (.ifCond .eq 34, 3) := by decide +kernel
theorem dX8_byRow_55 : decode cX8_byRow 55 = .ok (.aload_n 0, 1) := by decide +kernel
theorem dX8_byRow_56 : decode cX8_byRow 56 = .ok (.iload_n 1, 1) := by decide +kernel
theorem dX8_byRow_57 : decode cX8_byRow 57 = .ok (.iload_n 2, 1) := by decide +kernel
theorem dX8_byRow_58 : decode cX8_byRow 58 = .ok (.iload_n 3, 1) := by decide +kernel
theorem dX8_byRow_59 : decode cX8_byRow 59 = .ok (.invokevirtual 134, 3) := by decide +kernel
theorem dX8_byRow_62 : decode cX8_byRow 62 = .ok (.ifCond .eq 24, 3) := by decide +kernel
theorem dX8_byRow_65 : decode cX8_byRow 65 = .ok (.aload_n 0, 1) := by decide +kernel
theorem dX8_byRow_66 : decode cX8_byRow 66 = .ok (.iload_n 1, 1) := by decide +kernel
theorem dX8_byRow_67 : decode cX8_byRow 67 = .ok (.iload_n 2, 1) := by decide +kernel
theorem dX8_byRow_68 : decode cX8_byRow 68 = .ok (.iload_n 3, 1) := by decide +kernel
theorem dX8_byRow_69 : decode cX8_byRow 69 = .ok (.invokevirtual 140, 3) := by decide +kernel
theorem dX8_byRow_72 : decode cX8_byRow 72 = .ok (.aload_n 0, 1) := by decide +kernel
theorem dX8_byRow_73 : decode cX8_byRow 73 = .ok (.iload_n 2, 1) := by decide +kernel
theorem dX8_byRow_74 : decode cX8_byRow 74 = .ok (.iconst 0, 1) := by decide +kernel
theorem dX8_byRow_75 : decode cX8_byRow 75 = .ok (.invokevirtual 80, 3) := by decide +kernel
theorem dX8_byRow_78 : decode cX8_byRow 78 = .ok (.ifCond .ne 8, 3) := by decide +kernel
theorem dX8_byRow_81 : decode cX8_byRow 81 = .ok (.aload_n 0, 1) := by decide +kernel
theorem dX8_byRow_82 : decode cX8_byRow 82 = .ok (.iload_n 1, 1) := by decide +kernel
theorem dX8_byRow_83 : decode cX8_byRow 83 = .ok (.putfield 29, 3) := by decide +kernel
theorem dX8_byRow_86 : decode cX8_byRow 86 = .ok (.iinc 3 1, 3) := by decide +kernel
theorem dX8_byRow_89 : decode cX8_byRow 89 = .ok (.goto (-66), 3) := by decide +kernel
theorem dX8_byRow_92 : decode cX8_byRow 92 = .ok (.iinc 2 1, 3) := by decide +kernel
theorem dX8_byRow_95 : decode cX8_byRow 95 = .ok (.goto (-93), 3) := by decide +kernel
theorem dX8_byRow_98 : decode cX8_byRow 98 = .ok (.return_, 1) := by decide +kernel
theorem dX8_run_0 : decode cX8_run 0 = .ok (.iload_n 1, 1) := by decide +kernel
theorem dX8_run_1 : decode cX8_run 1 = .ok (.iconst 0, 1) := by decide +kernel
theorem dX8_run_2 : decode cX8_run 2 = .ok (.iconst 1, 1) := by decide +kernel
theorem dX8_run_3 : decode cX8_run 3 = .ok (.invokestatic 60, 3) := by decide +kernel
theorem dX8_run_6 : decode cX8_run 6 = .ok (.ifCond .eq 14, 3) := by decide +kernel
theorem dX8_run_9 : decode cX8_run 9 = .ok (.iload_n 2, 1) := by decide +kernel
theorem dX8_run_10 : decode cX8_run 10 = .ok (.iconst 1, 1) := by decide +kernel
theorem dX8_run_11 : decode cX8_run 11 = .ok (.sipush 200, 3) := by decide +kernel
theorem dX8_run_14 : decode cX8_run 14 = .ok (.invokestatic 60, 3) := by decide +kernel
theorem dX8_run_17 : decode cX8_run 17 = .ok (.ifCond .ne 7, 3) := by decide +kernel
theorem dX8_run_20 : decode cX8_run 20 = .ok (.sipush (-1001), 3) := by decide +kernel
theorem dX8_run_23 : decode cX8_run 23 = .ok (.ireturn, 1) := by decide +kernel
theorem dX8_run_24 : decode cX8_run 24 = .ok (.iconst 0, 1) := by decide +kernel
theorem dX8_run_25 : decode cX8_run 25 = .ok (.istore_n 3, 1) := by decide +kernel
theorem dX8_run_26 : decode cX8_run 26 = .ok (.iconst 1, 1) := by decide +kernel
theorem dX8_run_27 : decode cX8_run 27 = .ok (.istore 4, 2) := by decide +kernel
theorem dX8_run_29 : decode cX8_run 29 = .ok (.aload_n 0, 1) := by decide +kernel
theorem dX8_run_30 : decode cX8_run 30 = .ok (.invokevirtual 137, 3) := by decide +kernel
theorem dX8_run_33 : decode cX8_run 33 = .ok (.iload 4, 2) := by decide +kernel
theorem dX8_run_35 : decode cX8_run 35 = .ok (.ifCond .eq 106, 3) := by decide +kernel
theorem dX8_run_38 : decode cX8_run 38 = .ok (.iload_n 3, 1) := by decide +kernel
theorem dX8_run_39 : decode cX8_run 39 = .ok (.iload_n 2, 1) := by decide +kernel
theorem dX8_run_40 : decode cX8_run 40 = .ok (.if_icmp .ge 101, 3) := by decide +kernel
theorem dX8_run_43 : decode cX8_run 43 = .ok (.aload_n 0, 1) := by decide +kernel
theorem dX8_run_44 : decode cX8_run 44 = .ok (.getfield 29, 3) := by decide +kernel
theorem dX8_run_47 : decode cX8_run 47 = .ok (.sipush (-1000), 3) := by decide +kernel
theorem dX8_run_50 : decode cX8_run 50 = .ok (.if_icmp .ne 91, 3) := by decide +kernel
theorem dX8_run_53 : decode cX8_run 53 = .ok (.aload_n 0, 1) := by decide +kernel
theorem dX8_run_54 : decode cX8_run 54 = .ok (.getfield 70, 3) := by decide +kernel
theorem dX8_run_57 : decode cX8_run 57 = .ok (.istore 5, 2) := by decide +kernel
theorem dX8_run_59 : decode cX8_run 59 = .ok (.aload_n 0, 1) := by decide +kernel
theorem dX8_run_60 : decode cX8_run 60 = .ok (.dup, 1) := by decide +kernel
theorem dX8_run_61 : decode cX8_run 61 = .ok (.getfield 67, 3) := by decide +kernel
theorem dX8_run_64 : decode cX8_run 64 = .ok (.iconst 1, 1) := by decide +kernel
theorem dX8_run_65 : decode cX8_run 65 = .ok (.iadd, 1) := by decide +kernel
theorem dX8_run_66 : decode cX8_run 66 = .ok (.putfield 67, 3) := by decide +kernel
theorem dX8_run_69 : decode cX8_run 69 = .ok (.iinc 3 1, 3) := by decide +kernel
theorem dX8_run_72 : decode cX8_run 72 = .ok (.iconst 0, 1) := by decide +kernel
theorem dX8_run_73 : decode cX8_run 73 = .ok (.istore 6, 2) := by decide +kernel
theorem dX8_run_75 : decode cX8_run 75 = .ok (.iload 6, 2) := by decide +kernel
theorem dX8_run_77 : decode cX8_run 77 = .ok (.aload_n 0, 1) := by decide +kernel
theorem dX8_run_78 : decode cX8_run 78 = .ok (.getfield 64, 3) := by decide +kernel
theorem dX8_run_81 : decode cX8_run 81 = .ok (.if_icmp .ge 41, 3) := by decide +kernel
theorem dX8_run_84 : decode cX8_run 84 = .ok (.aload_n 0, 1) := by decide +kernel
theorem dX8_run_85 : decode cX8_run 85 = .ok (.getfield 29, 3) := by decide +kernel
theorem dX8_run_88 : decode cX8_run 88 = .ok (.sipush (-1000), 3) := by decide +kernel
theorem dX8_run_91 : decode cX8_run 91 = .ok (.if_icmp .ne 31, 3) := by decide +kernel
theorem dX8_run_94 : decode cX8_run 94 = .ok (.aload_n 0, 1) := by decide +kernel
theorem dX8_run_95 : decode cX8_run 95 = .ok (.iload_n 1, 1) := by decide +kernel
theorem dX8_run_96 : decode cX8_run 96 = .ok (.ifCond .ne 8, 3) := by decide +kernel
theorem dX8_run_99 : decode cX8_run 99 = .ok (.iload 6, 2) := by decide +kernel
theorem dX8_run_101 : decode cX8_run 101 = .ok (.goto 12, 3) := by decide +kernel
theorem dX8_run_104 : decode cX8_run 104 = .ok (.aload_n 0, 1) := by decide +kernel
theorem dX8_run_105 : decode cX8_run 105 = .ok (.getfield 64, 3) := by decide +kernel
theorem dX8_run_108 : decode cX8_run 108 = .ok (.iconst 1, 1) := by decide +kernel
theorem dX8_run_109 : decode cX8_run 109 = .ok (.isub, 1) := by decide +kernel
theorem dX8_run_110 : decode cX8_run 110 = .ok (.iload 6, 2) := by decide +kernel
theorem dX8_run_112 : decode cX8_run 112 = .ok (.isub, 1) := by decide +kernel
theorem dX8_run_113 : decode cX8_run 113 = .ok (.invokevirtual 144, 3) := by decide +kernel
theorem dX8_run_116 : decode cX8_run 116 = .ok (.iinc 6 1, 3) := by decide +kernel
theorem dX8_run_119 : decode cX8_run 119 = .ok (.goto (-44), 3) := by decide +kernel
theorem dX8_run_122 : decode cX8_run 122 = .ok (.aload_n 0, 1) := by decide +kernel
theorem dX8_run_123 : decode cX8_run 123 = .ok (.getfield 70, 3) := by decide +kernel
theorem dX8_run_126 : decode cX8_run 126 = .ok (.iload 5, 2) := by decide +kernel
theorem dX8_run_128 : decode cX8_run 128 = .ok (.if_icmp .le 7, 3) := by decide +kernel
theorem dX8_run_131 : decode cX8_run 131 = .ok (.iconst 1, 1) := by decide +kernel
theorem dX8_run_132 : decode cX8_run 132 = .ok (.goto 4, 3) := by decide +kernel
theorem dX8_run_135 : decode cX8_run 135 = .ok (.iconst 0, 1) := by decide +kernel
theorem dX8_run_136 : decode cX8_run 136 = .ok (.istore 4, 2) := by decide +kernel
theorem dX8_run_138 : decode cX8_run 138 = .ok (.goto (-105), 3) := by decide +kernel
theorem dX8_run_141 : decode cX8_run 141 = .ok (.aload_n 0, 1) := by decide +kernel
theorem dX8_run_142 : decode cX8_run 142 = .ok (.getfield 29, 3) := by decide +kernel
theorem dX8_run_145 : decode cX8_run 145 = .ok (.sipush (-1000), 3) := by decide +kernel
theorem dX8_run_148 : decode cX8_run 148 = .ok (.if_icmp .ne 7, 3) := by decide +kernel
theorem dX8_run_151 : decode cX8_run 151 = .ok (.iload_n 3, 1) := by decide +kernel
theorem dX8_run_152 : decode cX8_run 152 = .ok (.goto 4, 3) := by decide +kernel
theorem dX8_run_155 : decode cX8_run 155 = .ok (.iconst 0, 1) := by decide +kernel
theorem dX8_run_156 : decode cX8_run 156 = .ok (.ireturn, 1) := by decide +kernel
theorem dX8_clash_0 : decode cX8_clash 0 = .ok (.aload_n 0, 1) := by decide +kernel
theorem dX8_clash_1 : decode cX8_clash 1 = .ok (.getfield 29, 3) := by decide +kernel
theorem dX8_clash_4 : decode cX8_clash 4 = .ok (.ireturn, 1) := by decide +kernel
theorem dX8_has_0 : decode cX8_has 0 = .ok (.aload_n 0, 1) := by decide +kernel
theorem dX8_has_1 : decode cX8_has 1 = .ok (.iload_n 1, 1) := by decide +kernel
theorem dX8_has_2 : decode cX8_has 2 = .ok (.invokevirtual 76, 3) := by decide +kernel
theorem dX8_has_5 : decode cX8_has 5 = .ok (.ifCond .ne 9, 3) := by decide +kernel
theorem dX8_has_8 : decode cX8_has 8 = .ok (.sipush (-1001), 3) := by decide +kernel
theorem dX8_has_11 : decode cX8_has 11 = .ok (.goto 36, 3) := by decide +kernel
theorem dX8_has_14 : decode cX8_has 14 = .ok (.iload_n 2, 1) := by decide +kernel
theorem dX8_has_15 : decode cX8_has 15 = .ok (.bipush (-32), 2) := by decide +kernel
theorem dX8_has_17 : decode cX8_has 17 = .ok (.bipush 31, 2) := by decide +kernel
theorem dX8_has_19 : decode cX8_has 19 = .ok (.invokestatic 60, 3) := by decide +kernel
theorem dX8_has_22 : decode cX8_has 22 = .ok (.ifCond .eq 24, 3) := by decide +kernel
theorem dX8_has_25 : decode cX8_has 25 = .ok (.aload_n 0, 1) := by decide +kernel
theorem dX8_has_26 : decode cX8_has 26 = .ok (.getfield 13, 3) := by decide +kernel
theorem dX8_has_29 : decode cX8_has 29 = .ok (.bipush 64, 2) := by decide +kernel
theorem dX8_has_31 : decode cX8_has 31 = .ok (.iload_n 1, 1) := by decide +kernel
theorem dX8_has_32 : decode cX8_has 32 = .ok (.imul, 1) := by decide +kernel
theorem dX8_has_33 : decode cX8_has 33 = .ok (.iload_n 2, 1) := by decide +kernel
theorem dX8_has_34 : decode cX8_has 34 = .ok (.iadd, 1) := by decide +kernel
theorem dX8_has_35 : decode cX8_has 35 = .ok (.bipush 32, 2) := by decide +kernel
theorem dX8_has_37 : decode cX8_has 37 = .ok (.iadd, 1) := by decide +kernel
theorem dX8_has_38 : decode cX8_has 38 = .ok (.baload, 1) := by decide +kernel
theorem dX8_has_39 : decode cX8_has 39 = .ok (.ifCond .eq 7, 3) := by decide +kernel
theorem dX8_has_42 : decode cX8_has 42 = .ok (.iconst 1, 1) := by decide +kernel
theorem dX8_has_43 : decode cX8_has 43 = .ok (.goto 4, 3) := by decide +kernel
theorem dX8_has_46 : decode cX8_has 46 = .ok (.iconst 0, 1) := by decide +kernel
theorem dX8_has_47 : decode cX8_has 47 = .ok (.ireturn, 1) := by decide +kernel
theorem dX8_end_0 : decode cX8_end 0 = .ok (.aload_n 0, 1) := by decide +kernel
theorem dX8_end_1 : decode cX8_end 1 = .ok (.iload_n 1, 1) := by decide +kernel
theorem dX8_end_2 : decode cX8_end 2 = .ok (.invokevirtual 76, 3) := by decide +kernel
theorem dX8_end_5 : decode cX8_end 5 = .ok (.ifCond .ne 9, 3) := by decide +kernel
theorem dX8_end_8 : decode cX8_end 8 = .ok (.sipush (-1001), 3) := by decide +kernel
theorem dX8_end_11 : decode cX8_end 11 = .ok (.goto 22, 3) := by decide +kernel
theorem dX8_end_14 : decode cX8_end 14 = .ok (.iload_n 2, 1) := by decide +kernel
theorem dX8_end_15 : decode cX8_end 15 = .ok (.ifCond .eq 12, 3) := by decide +kernel
theorem dX8_end_18 : decode cX8_end 18 = .ok (.aload_n 0, 1) := by decide +kernel
theorem dX8_end_19 : decode cX8_end 19 = .ok (.iload_n 1, 1) := by decide +kernel
theorem dX8_end_20 : decode cX8_end 20 = .ok (.iconst 0, 1) := by decide +kernel
theorem dX8_end_21 : decode cX8_end 21 = .ok (.invokevirtual 124, 3) := by decide +kernel
theorem dX8_end_24 : decode cX8_end 24 = .ok (.goto 9, 3) := by decide +kernel
theorem dX8_end_27 : decode cX8_end 27 = .ok (.aload_n 0, 1) := by decide +kernel
theorem dX8_end_28 : decode cX8_end 28 = .ok (.iload_n 1, 1) := by decide +kernel
theorem dX8_end_29 : decode cX8_end 29 = .ok (.iconst 0, 1) := by decide +kernel
theorem dX8_end_30 : decode cX8_end 30 = .ok (.invokevirtual 121, 3) := by decide +kernel
theorem dX8_end_33 : decode cX8_end 33 = .ok (.ireturn, 1) := by decide +kernel
theorem dX8_size_0 : decode cX8_size 0 = .ok (.aload_n 0, 1) := by decide +kernel
theorem dX8_size_1 : decode cX8_size 1 = .ok (.iload_n 1, 1) := by decide +kernel
theorem dX8_size_2 : decode cX8_size 2 = .ok (.invokevirtual 76, 3) := by decide +kernel
theorem dX8_size_5 : decode cX8_size 5 = .ok (.ifCond .eq 12, 3) := by decide +kernel
theorem dX8_size_8 : decode cX8_size 8 = .ok (.aload_n 0, 1) := by decide +kernel
theorem dX8_size_9 : decode cX8_size 9 = .ok (.iload_n 1, 1) := by decide +kernel
theorem dX8_size_10 : decode cX8_size 10 = .ok (.iconst 0, 1) := by decide +kernel
theorem dX8_size_11 : decode cX8_size 11 = .ok (.invokevirtual 80, 3) := by decide +kernel
theorem dX8_size_14 : decode cX8_size 14 = .ok (.goto 6, 3) := by decide +kernel
theorem dX8_size_17 : decode cX8_size 17 = .ok (.sipush (-1001), 3) := by decide +kernel
theorem dX8_size_20 : decode cX8_size 20 = .ok (.ireturn, 1) := by decide +kernel
theorem dX8_steps_0 : decode cX8_steps 0 = .ok (.aload_n 0, 1) := by decide +kernel
theorem dX8_steps_1 : decode cX8_steps 1 = .ok (.getfield 70, 3) := by decide +kernel
theorem dX8_steps_4 : decode cX8_steps 4 = .ok (.ireturn, 1) := by decide +kernel
theorem dX8_step_0 : decode cX8_step 0 = .ok (.iload_n 1, 1) := by decide +kernel
theorem dX8_step_1 : decode cX8_step 1 = .ok (.iconst 0, 1) := by decide +kernel
theorem dX8_step_2 : decode cX8_step 2 = .ok (.aload_n 0, 1) := by decide +kernel
theorem dX8_step_3 : decode cX8_step 3 = .ok (.getfield 70, 3) := by decide +kernel
theorem dX8_step_6 : decode cX8_step 6 = .ok (.iconst 1, 1) := by decide +kernel
theorem dX8_step_7 : decode cX8_step 7 = .ok (.isub, 1) := by decide +kernel
theorem dX8_step_8 : decode cX8_step 8 = .ok (.invokestatic 60, 3) := by decide +kernel
theorem dX8_step_11 : decode cX8_step 11 = .ok (.ifCond .eq 12, 3) := by decide +kernel
theorem dX8_step_14 : decode cX8_step 14 = .ok (.iload_n 2, 1) := by decide +kernel
theorem dX8_step_15 : decode cX8_step 15 = .ok (.iconst 0, 1) := by decide +kernel
theorem dX8_step_16 : decode cX8_step 16 = .ok (.iconst 3, 1) := by decide +kernel
theorem dX8_step_17 : decode cX8_step 17 = .ok (.invokestatic 60, 3) := by decide +kernel
theorem dX8_step_20 : decode cX8_step 20 = .ok (.ifCond .ne 7, 3) := by decide +kernel
theorem dX8_step_23 : decode cX8_step 23 = .ok (.sipush (-1001), 3) := by decide +kernel
theorem dX8_step_26 : decode cX8_step 26 = .ok (.ireturn, 1) := by decide +kernel
theorem dX8_step_27 : decode cX8_step 27 = .ok (.iload_n 2, 1) := by decide +kernel
theorem dX8_step_28 : decode cX8_step 28 = .ok (.ifCond .ne 12, 3) := by decide +kernel
theorem dX8_step_31 : decode cX8_step 31 = .ok (.aload_n 0, 1) := by decide +kernel
theorem dX8_step_32 : decode cX8_step 32 = .ok (.getfield 33, 3) := by decide +kernel
theorem dX8_step_35 : decode cX8_step 35 = .ok (.iload_n 1, 1) := by decide +kernel
theorem dX8_step_36 : decode cX8_step 36 = .ok (.iaload, 1) := by decide +kernel
theorem dX8_step_37 : decode cX8_step 37 = .ok (.goto 37, 3) := by decide +kernel
theorem dX8_step_40 : decode cX8_step 40 = .ok (.iload_n 2, 1) := by decide +kernel
theorem dX8_step_41 : decode cX8_step 41 = .ok (.iconst 1, 1) := by decide +kernel
theorem dX8_step_42 : decode cX8_step 42 = .ok (.if_icmp .ne 12, 3) := by decide +kernel
theorem dX8_step_45 : decode cX8_step 45 = .ok (.aload_n 0, 1) := by decide +kernel
theorem dX8_step_46 : decode cX8_step 46 = .ok (.getfield 36, 3) := by decide +kernel
theorem dX8_step_49 : decode cX8_step 49 = .ok (.iload_n 1, 1) := by decide +kernel
theorem dX8_step_50 : decode cX8_step 50 = .ok (.iaload, 1) := by decide +kernel
theorem dX8_step_51 : decode cX8_step 51 = .ok (.goto 23, 3) := by decide +kernel
theorem dX8_step_54 : decode cX8_step 54 = .ok (.iload_n 2, 1) := by decide +kernel
theorem dX8_step_55 : decode cX8_step 55 = .ok (.iconst 2, 1) := by decide +kernel
theorem dX8_step_56 : decode cX8_step 56 = .ok (.if_icmp .ne 12, 3) := by decide +kernel
theorem dX8_step_59 : decode cX8_step 59 = .ok (.aload_n 0, 1) := by decide +kernel
theorem dX8_step_60 : decode cX8_step 60 = .ok (.getfield 39, 3) := by decide +kernel
theorem dX8_step_63 : decode cX8_step 63 = .ok (.iload_n 1, 1) := by decide +kernel
theorem dX8_step_64 : decode cX8_step 64 = .ok (.iaload, 1) := by decide +kernel
theorem dX8_step_65 : decode cX8_step 65 = .ok (.goto 9, 3) := by decide +kernel
theorem dX8_step_68 : decode cX8_step 68 = .ok (.aload_n 0, 1) := by decide +kernel
theorem dX8_step_69 : decode cX8_step 69 = .ok (.getfield 42, 3) := by decide +kernel
theorem dX8_step_72 : decode cX8_step 72 = .ok (.iload_n 1, 1) := by decide +kernel
theorem dX8_step_73 : decode cX8_step 73 = .ok (.iaload, 1) := by decide +kernel
theorem dX8_step_74 : decode cX8_step 74 = .ok (.ireturn, 1) := by decide +kernel
theorem dX8_reason_0 : decode cX8_reason 0 = .ok (.iload_n 1, 1) := by decide +kernel
theorem dX8_reason_1 : decode cX8_reason 1 = .ok (.iconst 0, 1) := by decide +kernel
theorem dX8_reason_2 : decode cX8_reason 2 = .ok (.aload_n 0, 1) := by decide +kernel
theorem dX8_reason_3 : decode cX8_reason 3 = .ok (.getfield 70, 3) := by decide +kernel
theorem dX8_reason_6 : decode cX8_reason 6 = .ok (.iconst 1, 1) := by decide +kernel
theorem dX8_reason_7 : decode cX8_reason 7 = .ok (.isub, 1) := by decide +kernel
theorem dX8_reason_8 : decode cX8_reason 8 = .ok (.invokestatic 60, 3) := by decide +kernel
theorem dX8_reason_11 : decode cX8_reason 11 = .ok (.ifCond .ne 7, 3) := by decide +kernel
theorem dX8_reason_14 : decode cX8_reason 14 = .ok (.sipush (-1001), 3) := by decide +kernel
theorem dX8_reason_17 : decode cX8_reason 17 = .ok (.ireturn, 1) := by decide +kernel
theorem dX8_reason_18 : decode cX8_reason 18 = .ok (.iconst 0, 1) := by decide +kernel
theorem dX8_reason_19 : decode cX8_reason 19 = .ok (.istore_n 2, 1) := by decide +kernel
theorem dX8_reason_20 : decode cX8_reason 20 = .ok (.iconst 0, 1) := by decide +kernel
theorem dX8_reason_21 : decode cX8_reason 21 = .ok (.istore_n 3, 1) := by decide +kernel
theorem dX8_reason_22 : decode cX8_reason 22 = .ok (.iload_n 3, 1) := by decide +kernel
theorem dX8_reason_23 : decode cX8_reason 23 = .ok (.bipush 16, 2) := by decide +kernel
theorem dX8_reason_25 : decode cX8_reason 25 = .ok (.if_icmp .ge 31, 3) := by decide +kernel
theorem dX8_reason_28 : decode cX8_reason 28 = .ok (.iload_n 2, 1) := by decide +kernel
theorem dX8_reason_29 : decode cX8_reason 29 = .ok (.aload_n 0, 1) := by decide +kernel
theorem dX8_reason_30 : decode cX8_reason 30 = .ok (.getfield 45, 3) := by decide +kernel
theorem dX8_reason_33 : decode cX8_reason 33 = .ok (.bipush 16, 2) := by decide +kernel
theorem dX8_reason_35 : decode cX8_reason 35 = .ok (.iload_n 1, 1) := by decide +kernel
theorem dX8_reason_36 : decode cX8_reason 36 = .ok (.imul, 1) := by decide +kernel
theorem dX8_reason_37 : decode cX8_reason 37 = .ok (.iload_n 3, 1) := by decide +kernel
theorem dX8_reason_38 : decode cX8_reason 38 = .ok (.iadd, 1) := by decide +kernel
theorem dX8_reason_39 : decode cX8_reason 39 = .ok (.baload, 1) := by decide +kernel
theorem dX8_reason_40 : decode cX8_reason 40 = .ok (.ifCond .eq 7, 3) := by decide +kernel
theorem dX8_reason_43 : decode cX8_reason 43 = .ok (.iconst 1, 1) := by decide +kernel
theorem dX8_reason_44 : decode cX8_reason 44 = .ok (.goto 4, 3) := by decide +kernel
theorem dX8_reason_47 : decode cX8_reason 47 = .ok (.iconst 0, 1) := by decide +kernel
theorem dX8_reason_48 : decode cX8_reason 48 = .ok (.iadd, 1) := by decide +kernel
theorem dX8_reason_49 : decode cX8_reason 49 = .ok (.istore_n 2, 1) := by decide +kernel
theorem dX8_reason_50 : decode cX8_reason 50 = .ok (.iinc 3 1, 3) := by decide +kernel
theorem dX8_reason_53 : decode cX8_reason 53 = .ok (.goto (-31), 3) := by decide +kernel
theorem dX8_reason_56 : decode cX8_reason 56 = .ok (.iload_n 2, 1) := by decide +kernel
theorem dX8_reason_57 : decode cX8_reason 57 = .ok (.ireturn, 1) := by decide +kernel
theorem dX8_placeOf_0 : decode cX8_placeOf 0 = .ok (.iload_n 1, 1) := by decide +kernel
theorem dX8_placeOf_1 : decode cX8_placeOf 1 = .ok (.iconst 0, 1) := by decide +kernel
theorem dX8_placeOf_2 : decode cX8_placeOf 2 = .ok (.aload_n 0, 1) := by decide +kernel
theorem dX8_placeOf_3 : decode cX8_placeOf 3 = .ok (.getfield 70, 3) := by decide +kernel
theorem dX8_placeOf_6 : decode cX8_placeOf 6 = .ok (.iconst 1, 1) := by decide +kernel
theorem dX8_placeOf_7 : decode cX8_placeOf 7 = .ok (.isub, 1) := by decide +kernel
theorem dX8_placeOf_8 : decode cX8_placeOf 8 = .ok (.invokestatic 60, 3) := by decide +kernel
theorem dX8_placeOf_11 : decode cX8_placeOf 11 = .ok (.ifCond .eq 7, 3) := by decide +kernel
theorem dX8_placeOf_14 : decode cX8_placeOf 14 = .ok (.iload_n 2, 1) := by decide +kernel
theorem dX8_placeOf_15 : decode cX8_placeOf 15 = .ok (.ifCond .ge 7, 3) := by decide +kernel
theorem dX8_placeOf_18 : decode cX8_placeOf 18 = .ok (.sipush (-1000), 3) := by decide +kernel
theorem dX8_placeOf_21 : decode cX8_placeOf 21 = .ok (.ireturn, 1) := by decide +kernel
theorem dX8_placeOf_22 : decode cX8_placeOf 22 = .ok (.iload_n 2, 1) := by decide +kernel
theorem dX8_placeOf_23 : decode cX8_placeOf 23 = .ok (.istore_n 3, 1) := by decide +kernel
theorem dX8_placeOf_24 : decode cX8_placeOf 24 = .ok (.iconst 0, 1) := by decide +kernel
theorem dX8_placeOf_25 : decode cX8_placeOf 25 = .ok (.istore 4, 2) := by decide +kernel
theorem dX8_placeOf_27 : decode cX8_placeOf 27 = .ok (.iload 4, 2) := by decide +kernel
theorem dX8_placeOf_29 : decode cX8_placeOf 29 = .ok (.bipush 16, 2) := by decide +kernel
theorem dX8_placeOf_31 : decode cX8_placeOf 31 = .ok (.if_icmp .ge 34, 3) := by decide +kernel
theorem dX8_placeOf_34 : decode cX8_placeOf 34 = .ok (.aload_n 0, 1) := by decide +kernel
theorem dX8_placeOf_35 : decode cX8_placeOf 35 = .ok (.getfield 45, 3) := by decide +kernel
theorem dX8_placeOf_38 : decode cX8_placeOf 38 = .ok (.bipush 16, 2) := by decide +kernel
theorem dX8_placeOf_40 : decode cX8_placeOf 40 = .ok (.iload_n 1, 1) := by decide +kernel
theorem dX8_placeOf_41 : decode cX8_placeOf 41 = .ok (.imul, 1) := by decide +kernel
theorem dX8_placeOf_42 : decode cX8_placeOf 42 = .ok (.iload 4, 2) := by decide +kernel
theorem dX8_placeOf_44 : decode cX8_placeOf 44 = .ok (.iadd, 1) := by decide +kernel
theorem dX8_placeOf_45 : decode cX8_placeOf 45 = .ok (.baload, 1) := by decide +kernel
theorem dX8_placeOf_46 : decode cX8_placeOf 46 = .ok (.ifCond .eq 13, 3) := by decide +kernel
theorem dX8_placeOf_49 : decode cX8_placeOf 49 = .ok (.iload_n 3, 1) := by decide +kernel
theorem dX8_placeOf_50 : decode cX8_placeOf 50 = .ok (.ifCond .ne 6, 3) := by decide +kernel
theorem dX8_placeOf_53 : decode cX8_placeOf 53 = .ok (.iload 4, 2) := by decide +kernel
theorem dX8_placeOf_55 : decode cX8_placeOf 55 = .ok (.ireturn, 1) := by decide +kernel
theorem dX8_placeOf_56 : decode cX8_placeOf 56 = .ok (.iinc 3 (-1), 3) := by decide +kernel
theorem dX8_placeOf_59 : decode cX8_placeOf 59 = .ok (.iinc 4 1, 3) := by decide +kernel
theorem dX8_placeOf_62 : decode cX8_placeOf 62 = .ok (.goto (-35), 3) := by decide +kernel
theorem dX8_placeOf_65 : decode cX8_placeOf 65 = .ok (.sipush (-1000), 3) := by decide +kernel
theorem dX8_placeOf_68 : decode cX8_placeOf 68 = .ok (.ireturn, 1) := by decide +kernel
theorem dX8_part_0 : decode cX8_part 0 = .ok (.aload_n 0, 1) := by decide +kernel
theorem dX8_part_1 : decode cX8_part 1 = .ok (.iload_n 1, 1) := by decide +kernel
theorem dX8_part_2 : decode cX8_part 2 = .ok (.iload_n 2, 1) := by decide +kernel
theorem dX8_part_3 : decode cX8_part 3 = .ok (.invokevirtual 148, 3) := by decide +kernel
theorem dX8_part_6 : decode cX8_part 6 = .ok (.istore_n 3, 1) := by decide +kernel
theorem dX8_part_7 : decode cX8_part 7 = .ok (.iload_n 3, 1) := by decide +kernel
theorem dX8_part_8 : decode cX8_part 8 = .ok (.sipush (-1000), 3) := by decide +kernel
theorem dX8_part_11 : decode cX8_part 11 = .ok (.if_icmp .ne 9, 3) := by decide +kernel
theorem dX8_part_14 : decode cX8_part 14 = .ok (.sipush (-1001), 3) := by decide +kernel
theorem dX8_part_17 : decode cX8_part 17 = .ok (.goto 4, 3) := by decide +kernel
theorem dX8_part_20 : decode cX8_part 20 = .ok (.iload_n 3, 1) := by decide +kernel
theorem dX8_part_21 : decode cX8_part 21 = .ok (.ireturn, 1) := by decide +kernel
theorem dX8_told_0 : decode cX8_told 0 = .ok (.aload_n 0, 1) := by decide +kernel
theorem dX8_told_1 : decode cX8_told 1 = .ok (.iload_n 1, 1) := by decide +kernel
theorem dX8_told_2 : decode cX8_told 2 = .ok (.iload_n 2, 1) := by decide +kernel
theorem dX8_told_3 : decode cX8_told 3 = .ok (.invokevirtual 148, 3) := by decide +kernel
theorem dX8_told_6 : decode cX8_told 6 = .ok (.istore_n 3, 1) := by decide +kernel
theorem dX8_told_7 : decode cX8_told 7 = .ok (.iload_n 3, 1) := by decide +kernel
theorem dX8_told_8 : decode cX8_told 8 = .ok (.sipush (-1000), 3) := by decide +kernel
theorem dX8_told_11 : decode cX8_told 11 = .ok (.if_icmp .ne 9, 3) := by decide +kernel
theorem dX8_told_14 : decode cX8_told 14 = .ok (.sipush (-1001), 3) := by decide +kernel
theorem dX8_told_17 : decode cX8_told 17 = .ok (.goto 14, 3) := by decide +kernel
theorem dX8_told_20 : decode cX8_told 20 = .ok (.aload_n 0, 1) := by decide +kernel
theorem dX8_told_21 : decode cX8_told 21 = .ok (.getfield 48, 3) := by decide +kernel
theorem dX8_told_24 : decode cX8_told 24 = .ok (.bipush 16, 2) := by decide +kernel
theorem dX8_told_26 : decode cX8_told 26 = .ok (.iload_n 1, 1) := by decide +kernel
theorem dX8_told_27 : decode cX8_told 27 = .ok (.imul, 1) := by decide +kernel
theorem dX8_told_28 : decode cX8_told 28 = .ok (.iload_n 3, 1) := by decide +kernel
theorem dX8_told_29 : decode cX8_told 29 = .ok (.iadd, 1) := by decide +kernel
theorem dX8_told_30 : decode cX8_told 30 = .ok (.iaload, 1) := by decide +kernel
theorem dX8_told_31 : decode cX8_told 31 = .ok (.ireturn, 1) := by decide +kernel
