theorem dX1_endOfOthers_0 : decode cX1_endOfOthers 0 = .ok (.iconst 0, 1) := by decide +kernel
theorem dX1_endOfOthers_1 : decode cX1_endOfOthers 1 = .ok (.istore 4, 2) := by decide +kernel
theorem dX1_endOfOthers_3 : decode cX1_endOfOthers 3 = .ok (.iconst 0, 1) := by decide +kernel
theorem dX1_endOfOthers_4 : decode cX1_endOfOthers 4 = .ok (.istore 5, 2) := by decide +kernel
theorem dX1_endOfOthers_6 : decode cX1_endOfOthers 6 = .ok (.iload 5, 2) := by decide +kernel
theorem dX1_endOfOthers_8 : decode cX1_endOfOthers 8 = .ok (.bipush 8, 2) := by decide +kernel
theorem dX1_endOfOthers_10 : decode cX1_endOfOthers 10 = .ok (.if_icmp .ge 139, 3) := by decide +kernel
theorem dX1_endOfOthers_13 : decode cX1_endOfOthers 13 = .ok (.aload_n 0, 1) := by decide +kernel
theorem dX1_endOfOthers_14 : decode cX1_endOfOthers 14 = .ok (.getfield 27, 3) := by decide +kernel
theorem dX1_endOfOthers_17 : decode cX1_endOfOthers 17 = .ok (.iload 5, 2) := by decide +kernel
theorem dX1_endOfOthers_19 : decode cX1_endOfOthers 19 = .ok (.iaload, 1) := by decide +kernel
theorem dX1_endOfOthers_20 : decode cX1_endOfOthers 20 = .ok (.istore 6, 2) := by decide +kernel
theorem dX1_endOfOthers_22 : decode cX1_endOfOthers 22 = .ok (.iload 5, 2) := by decide +kernel
theorem dX1_endOfOthers_24 : decode cX1_endOfOthers 24 = .ok (.iload_n 1, 1) := by decide +kernel
theorem dX1_endOfOthers_25 : decode cX1_endOfOthers 25 = .ok (.if_icmp .eq 118, 3) := by decide +kernel
theorem dX1_endOfOthers_28 : decode cX1_endOfOthers 28 = .ok (.iload 6, 2) := by decide +kernel
theorem dX1_endOfOthers_30 : decode cX1_endOfOthers 30 = .ok (.ifCond .ne 6, 3) := by decide +kernel
theorem dX1_endOfOthers_33 : decode cX1_endOfOthers 33 = .ok (.goto 110, 3) := by decide +kernel
theorem dX1_endOfOthers_36 : decode cX1_endOfOthers 36 = .ok (.aload_n 0, 1) := by decide +kernel
theorem dX1_endOfOthers_37 : decode cX1_endOfOthers 37 = .ok (.getfield 9, 3) := by decide +kernel
theorem dX1_endOfOthers_40 : decode cX1_endOfOthers 40 = .ok (.bipush 9, 2) := by decide +kernel
theorem dX1_endOfOthers_42 : decode cX1_endOfOthers 42 = .ok (.if_icmp .ne 50, 3) := by decide +kernel
theorem dX1_endOfOthers_45 : decode cX1_endOfOthers 45 = .ok (.iload_n 3, 1) := by decide +kernel
theorem dX1_endOfOthers_46 : decode cX1_endOfOthers 46 = .ok (.ifCond .eq 16, 3) := by decide +kernel
theorem dX1_endOfOthers_49 : decode cX1_endOfOthers 49 = .ok (.aload_n 2, 1) := by decide +kernel
theorem dX1_endOfOthers_50 : decode cX1_endOfOthers 50 = .ok (.iload 5, 2) := by decide +kernel
theorem dX1_endOfOthers_52 : decode cX1_endOfOthers 52 = .ok (.aload_n 0, 1) := by decide +kernel
theorem dX1_endOfOthers_53 : decode cX1_endOfOthers 53 = .ok (.getfield 24, 3) := by decide +kernel
theorem dX1_endOfOthers_56 : decode cX1_endOfOthers 56 = .ok (.invokevirtual 75, 3) := by decide +kernel
theorem dX1_endOfOthers_59 : decode cX1_endOfOthers 59 = .ok (.goto 13, 3) := by decide +kernel
theorem dX1_endOfOthers_62 : decode cX1_endOfOthers 62 = .ok (.aload_n 2, 1) := by decide +kernel
theorem dX1_endOfOthers_63 : decode cX1_endOfOthers 63 = .ok (.iload 5, 2) := by decide +kernel
theorem dX1_endOfOthers_65 : decode cX1_endOfOthers 65 = .ok (.aload_n 0, 1) := by decide +kernel
theorem dX1_endOfOthers_66 : decode cX1_endOfOthers 66 = .ok (.getfield 24, 3) := by decide +kernel
theorem dX1_endOfOthers_69 : decode cX1_endOfOthers 69 = .ok (.invokevirtual 93, 3) := by decide +kernel
theorem dX1_endOfOthers_72 : decode cX1_endOfOthers 72 = .ok (.istore 7, 2) := by decide +kernel
theorem dX1_endOfOthers_74 : decode cX1_endOfOthers 74 = .ok (.iload 4, 2) := by decide +kernel
theorem dX1_endOfOthers_76 : decode cX1_endOfOthers 76 = .ok (.iload 7, 2) := by decide +kernel
theorem dX1_endOfOthers_78 : decode cX1_endOfOthers 78 = .ok (.ifCond .eq 7, 3) := by decide +kernel
theorem dX1_endOfOthers_81 : decode cX1_endOfOthers 81 = .ok (.iconst 1, 1) := by decide +kernel
theorem dX1_endOfOthers_82 : decode cX1_endOfOthers 82 = .ok (.goto 4, 3) := by decide +kernel
theorem dX1_endOfOthers_85 : decode cX1_endOfOthers 85 = .ok (.iconst 0, 1) := by decide +kernel
theorem dX1_endOfOthers_86 : decode cX1_endOfOthers 86 = .ok (.iadd, 1) := by decide +kernel
theorem dX1_endOfOthers_87 : decode cX1_endOfOthers 87 = .ok (.istore 4, 2) := by decide +kernel
theorem dX1_endOfOthers_89 : decode cX1_endOfOthers 89 = .ok (.goto 54, 3) := by decide +kernel
theorem dX1_endOfOthers_92 : decode cX1_endOfOthers 92 = .ok (.iload_n 3, 1) := by decide +kernel
theorem dX1_endOfOthers_93 : decode cX1_endOfOthers 93 = .ok (.iload 6, 2) := by decide +kernel
theorem dX1_endOfOthers_95 : decode cX1_endOfOthers 95 = .ok (.ifCond .le 7, 3) := by decide +kernel
theorem dX1_endOfOthers_98 : decode cX1_endOfOthers 98 = .ok (.iconst 1, 1) := by decide +kernel
theorem dX1_endOfOthers_99 : decode cX1_endOfOthers 99 = .ok (.goto 4, 3) := by decide +kernel
theorem dX1_endOfOthers_102 : decode cX1_endOfOthers 102 = .ok (.iconst 0, 1) := by decide +kernel
theorem dX1_endOfOthers_103 : decode cX1_endOfOthers 103 = .ok (.if_icmp .ne 7, 3) := by decide +kernel
theorem dX1_endOfOthers_106 : decode cX1_endOfOthers 106 = .ok (.iconst 1, 1) := by decide +kernel
theorem dX1_endOfOthers_107 : decode cX1_endOfOthers 107 = .ok (.goto 4, 3) := by decide +kernel
theorem dX1_endOfOthers_110 : decode cX1_endOfOthers 110 = .ok (.iconst 0, 1) := by decide +kernel
theorem dX1_endOfOthers_111 : decode cX1_endOfOthers 111 = .ok (.istore 7, 2) := by decide +kernel
theorem dX1_endOfOthers_113 : decode cX1_endOfOthers 113 = .ok (.iload 4, 2) := by decide +kernel
theorem dX1_endOfOthers_115 : decode cX1_endOfOthers 115 = .ok (.iload 6, 2) := by decide +kernel
theorem dX1_endOfOthers_117 : decode cX1_endOfOthers 117 = .ok (.iload 7, 2) := by decide +kernel
theorem dX1_endOfOthers_119 : decode cX1_endOfOthers 119 = .ok (.ifCond .eq 13, 3) := by decide +kernel
theorem dX1_endOfOthers_122 : decode cX1_endOfOthers 122 = .ok (.aload_n 2, 1) := by decide +kernel
theorem dX1_endOfOthers_123 : decode cX1_endOfOthers 123 = .ok (.getfield 100, 3) := by decide +kernel
theorem dX1_endOfOthers_126 : decode cX1_endOfOthers 126 = .ok (.iload 5, 2) := by decide +kernel
theorem dX1_endOfOthers_128 : decode cX1_endOfOthers 128 = .ok (.iaload, 1) := by decide +kernel
theorem dX1_endOfOthers_129 : decode cX1_endOfOthers 129 = .ok (.goto 10, 3) := by decide +kernel
theorem dX1_endOfOthers_132 : decode cX1_endOfOthers 132 = .ok (.aload_n 2, 1) := by decide +kernel
theorem dX1_endOfOthers_133 : decode cX1_endOfOthers 133 = .ok (.getfield 103, 3) := by decide +kernel
theorem dX1_endOfOthers_136 : decode cX1_endOfOthers 136 = .ok (.iload 5, 2) := by decide +kernel
theorem dX1_endOfOthers_138 : decode cX1_endOfOthers 138 = .ok (.iaload, 1) := by decide +kernel
theorem dX1_endOfOthers_139 : decode cX1_endOfOthers 139 = .ok (.imul, 1) := by decide +kernel
theorem dX1_endOfOthers_140 : decode cX1_endOfOthers 140 = .ok (.iadd, 1) := by decide +kernel
theorem dX1_endOfOthers_141 : decode cX1_endOfOthers 141 = .ok (.istore 4, 2) := by decide +kernel
theorem dX1_endOfOthers_143 : decode cX1_endOfOthers 143 = .ok (.iinc 5 1, 3) := by decide +kernel
theorem dX1_endOfOthers_146 : decode cX1_endOfOthers 146 = .ok (.goto (-140), 3) := by decide +kernel
theorem dX1_endOfOthers_149 : decode cX1_endOfOthers 149 = .ok (.iload 4, 2) := by decide +kernel
theorem dX1_endOfOthers_151 : decode cX1_endOfOthers 151 = .ok (.ireturn, 1) := by decide +kernel
theorem dX1_allowsProduct_0 : decode cX1_allowsProduct 0 = .ok (.aload_n 2, 1) := by decide +kernel
theorem dX1_allowsProduct_1 : decode cX1_allowsProduct 1 = .ok (.getfield 103, 3) := by decide +kernel
theorem dX1_allowsProduct_4 : decode cX1_allowsProduct 4 = .ok (.aload_n 0, 1) := by decide +kernel
theorem dX1_allowsProduct_5 : decode cX1_allowsProduct 5 = .ok (.getfield 18, 3) := by decide +kernel
theorem dX1_allowsProduct_8 : decode cX1_allowsProduct 8 = .ok (.iaload, 1) := by decide +kernel
theorem dX1_allowsProduct_9 : decode cX1_allowsProduct 9 = .ok (.istore_n 3, 1) := by decide +kernel
theorem dX1_allowsProduct_10 : decode cX1_allowsProduct 10 = .ok (.iload_n 3, 1) := by decide +kernel
theorem dX1_allowsProduct_11 : decode cX1_allowsProduct 11 = .ok (.aload_n 2, 1) := by decide +kernel
theorem dX1_allowsProduct_12 : decode cX1_allowsProduct 12 = .ok (.getfield 100, 3) := by decide +kernel
theorem dX1_allowsProduct_15 : decode cX1_allowsProduct 15 = .ok (.aload_n 0, 1) := by decide +kernel
theorem dX1_allowsProduct_16 : decode cX1_allowsProduct 16 = .ok (.getfield 18, 3) := by decide +kernel
theorem dX1_allowsProduct_19 : decode cX1_allowsProduct 19 = .ok (.iaload, 1) := by decide +kernel
theorem dX1_allowsProduct_20 : decode cX1_allowsProduct 20 = .ok (.if_icmp .gt 42, 3) := by decide +kernel
theorem dX1_allowsProduct_23 : decode cX1_allowsProduct 23 = .ok (.iload_n 3, 1) := by decide +kernel
theorem dX1_allowsProduct_24 : decode cX1_allowsProduct 24 = .ok (.ifCond .ne 10, 3) := by decide +kernel
theorem dX1_allowsProduct_27 : decode cX1_allowsProduct 27 = .ok (.iload_n 1, 1) := by decide +kernel
theorem dX1_allowsProduct_28 : decode cX1_allowsProduct 28 = .ok (.ifCond .ne 28, 3) := by decide +kernel
theorem dX1_allowsProduct_31 : decode cX1_allowsProduct 31 = .ok (.goto 23, 3) := by decide +kernel
theorem dX1_allowsProduct_34 : decode cX1_allowsProduct 34 = .ok (.iload_n 1, 1) := by decide +kernel
theorem dX1_allowsProduct_35 : decode cX1_allowsProduct 35 = .ok (.iload_n 3, 1) := by decide +kernel
theorem dX1_allowsProduct_36 : decode cX1_allowsProduct 36 = .ok (.irem, 1) := by decide +kernel
theorem dX1_allowsProduct_37 : decode cX1_allowsProduct 37 = .ok (.ifCond .ne 19, 3) := by decide +kernel
theorem dX1_allowsProduct_40 : decode cX1_allowsProduct 40 = .ok (.aload_n 2, 1) := by decide +kernel
theorem dX1_allowsProduct_41 : decode cX1_allowsProduct 41 = .ok (.aload_n 0, 1) := by decide +kernel
theorem dX1_allowsProduct_42 : decode cX1_allowsProduct 42 = .ok (.getfield 21, 3) := by decide +kernel
theorem dX1_allowsProduct_45 : decode cX1_allowsProduct 45 = .ok (.iload_n 1, 1) := by decide +kernel
theorem dX1_allowsProduct_46 : decode cX1_allowsProduct 46 = .ok (.iload_n 3, 1) := by decide +kernel
theorem dX1_allowsProduct_47 : decode cX1_allowsProduct 47 = .ok (.idiv, 1) := by decide +kernel
theorem dX1_allowsProduct_48 : decode cX1_allowsProduct 48 = .ok (.invokevirtual 75, 3) := by decide +kernel
theorem dX1_allowsProduct_51 : decode cX1_allowsProduct 51 = .ok (.ifCond .eq 5, 3) := by decide +kernel
theorem dX1_allowsProduct_54 : decode cX1_allowsProduct 54 = .ok (.iconst 1, 1) := by decide +kernel
theorem dX1_allowsProduct_55 : decode cX1_allowsProduct 55 = .ok (.ireturn, 1) := by decide +kernel
theorem dX1_allowsProduct_56 : decode cX1_allowsProduct 56 = .ok (.iinc 3 1, 3) := by decide +kernel
theorem dX1_allowsProduct_59 : decode cX1_allowsProduct 59 = .ok (.goto (-49), 3) := by decide +kernel
theorem dX1_allowsProduct_62 : decode cX1_allowsProduct 62 = .ok (.iconst 0, 1) := by decide +kernel
theorem dX1_allowsProduct_63 : decode cX1_allowsProduct 63 = .ok (.ireturn, 1) := by decide +kernel
theorem dX1_allowsMultiplier_0 : decode cX1_allowsMultiplier 0 = .ok (.iload_n 1, 1) := by decide +kernel
theorem dX1_allowsMultiplier_1 : decode cX1_allowsMultiplier 1 = .ok (.ifCond .ne 13, 3) := by decide +kernel
theorem dX1_allowsMultiplier_4 : decode cX1_allowsMultiplier 4 = .ok (.aload_n 3, 1) := by decide +kernel
theorem dX1_allowsMultiplier_5 : decode cX1_allowsMultiplier 5 = .ok (.aload_n 0, 1) := by decide +kernel
theorem dX1_allowsMultiplier_6 : decode cX1_allowsMultiplier 6 = .ok (.getfield 15, 3) := by decide +kernel
theorem dX1_allowsMultiplier_9 : decode cX1_allowsMultiplier 9 = .ok (.iconst 0, 1) := by decide +kernel
theorem dX1_allowsMultiplier_10 : decode cX1_allowsMultiplier 10 = .ok (.invokevirtual 75, 3) := by decide +kernel
theorem dX1_allowsMultiplier_13 : decode cX1_allowsMultiplier 13 = .ok (.ireturn, 1) := by decide +kernel
theorem dX1_allowsMultiplier_14 : decode cX1_allowsMultiplier 14 = .ok (.iload_n 1, 1) := by decide +kernel
theorem dX1_allowsMultiplier_15 : decode cX1_allowsMultiplier 15 = .ok (.invokestatic 45, 3) := by decide +kernel
theorem dX1_allowsMultiplier_18 : decode cX1_allowsMultiplier 18 = .ok (.istore 4, 2) := by decide +kernel
theorem dX1_allowsMultiplier_20 : decode cX1_allowsMultiplier 20 = .ok (.iload_n 1, 1) := by decide +kernel
theorem dX1_allowsMultiplier_21 : decode cX1_allowsMultiplier 21 = .ok (.ifCond .le 15, 3) := by decide +kernel
theorem dX1_allowsMultiplier_24 : decode cX1_allowsMultiplier 24 = .ok (.aload_n 3, 1) := by decide +kernel
theorem dX1_allowsMultiplier_25 : decode cX1_allowsMultiplier 25 = .ok (.getfield 103, 3) := by decide +kernel
theorem dX1_allowsMultiplier_28 : decode cX1_allowsMultiplier 28 = .ok (.aload_n 0, 1) := by decide +kernel
theorem dX1_allowsMultiplier_29 : decode cX1_allowsMultiplier 29 = .ok (.getfield 15, 3) := by decide +kernel
theorem dX1_allowsMultiplier_32 : decode cX1_allowsMultiplier 32 = .ok (.iaload, 1) := by decide +kernel
theorem dX1_allowsMultiplier_33 : decode cX1_allowsMultiplier 33 = .ok (.goto 13, 3) := by decide +kernel
theorem dX1_allowsMultiplier_36 : decode cX1_allowsMultiplier 36 = .ok (.aload_n 3, 1) := by decide +kernel
theorem dX1_allowsMultiplier_37 : decode cX1_allowsMultiplier 37 = .ok (.getfield 100, 3) := by decide +kernel
theorem dX1_allowsMultiplier_40 : decode cX1_allowsMultiplier 40 = .ok (.aload_n 0, 1) := by decide +kernel
theorem dX1_allowsMultiplier_41 : decode cX1_allowsMultiplier 41 = .ok (.getfield 15, 3) := by decide +kernel
theorem dX1_allowsMultiplier_44 : decode cX1_allowsMultiplier 44 = .ok (.iaload, 1) := by decide +kernel
theorem dX1_allowsMultiplier_45 : decode cX1_allowsMultiplier 45 = .ok (.ineg, 1) := by decide +kernel
theorem dX1_allowsMultiplier_46 : decode cX1_allowsMultiplier 46 = .ok (.istore 5, 2) := by decide +kernel
theorem dX1_allowsMultiplier_48 : decode cX1_allowsMultiplier 48 = .ok (.iload_n 1, 1) := by decide +kernel
theorem dX1_allowsMultiplier_49 : decode cX1_allowsMultiplier 49 = .ok (.ifCond .le 15, 3) := by decide +kernel
theorem dX1_allowsMultiplier_52 : decode cX1_allowsMultiplier 52 = .ok (.aload_n 3, 1) := by decide +kernel
theorem dX1_allowsMultiplier_53 : decode cX1_allowsMultiplier 53 = .ok (.getfield 100, 3) := by decide +kernel
theorem dX1_allowsMultiplier_56 : decode cX1_allowsMultiplier 56 = .ok (.aload_n 0, 1) := by decide +kernel
theorem dX1_allowsMultiplier_57 : decode cX1_allowsMultiplier 57 = .ok (.getfield 15, 3) := by decide +kernel
theorem dX1_allowsMultiplier_60 : decode cX1_allowsMultiplier 60 = .ok (.iaload, 1) := by decide +kernel
theorem dX1_allowsMultiplier_61 : decode cX1_allowsMultiplier 61 = .ok (.goto 13, 3) := by decide +kernel
theorem dX1_allowsMultiplier_64 : decode cX1_allowsMultiplier 64 = .ok (.aload_n 3, 1) := by decide +kernel
theorem dX1_allowsMultiplier_65 : decode cX1_allowsMultiplier 65 = .ok (.getfield 103, 3) := by decide +kernel
theorem dX1_allowsMultiplier_68 : decode cX1_allowsMultiplier 68 = .ok (.aload_n 0, 1) := by decide +kernel
theorem dX1_allowsMultiplier_69 : decode cX1_allowsMultiplier 69 = .ok (.getfield 15, 3) := by decide +kernel
theorem dX1_allowsMultiplier_72 : decode cX1_allowsMultiplier 72 = .ok (.iaload, 1) := by decide +kernel
theorem dX1_allowsMultiplier_73 : decode cX1_allowsMultiplier 73 = .ok (.ineg, 1) := by decide +kernel
theorem dX1_allowsMultiplier_74 : decode cX1_allowsMultiplier 74 = .ok (.istore 6, 2) := by decide +kernel
theorem dX1_allowsMultiplier_76 : decode cX1_allowsMultiplier 76 = .ok (.iload 5, 2) := by decide +kernel
theorem dX1_allowsMultiplier_78 : decode cX1_allowsMultiplier 78 = .ok (.ineg, 1) := by decide +kernel
theorem dX1_allowsMultiplier_79 : decode cX1_allowsMultiplier 79 = .ok (.iload 4, 2) := by decide +kernel
theorem dX1_allowsMultiplier_81 : decode cX1_allowsMultiplier 81 = .ok (.invokestatic 39, 3) := by decide +kernel
theorem dX1_allowsMultiplier_84 : decode cX1_allowsMultiplier 84 = .ok (.ineg, 1) := by decide +kernel
theorem dX1_allowsMultiplier_85 : decode cX1_allowsMultiplier 85 = .ok (.istore 7, 2) := by decide +kernel
theorem dX1_allowsMultiplier_87 : decode cX1_allowsMultiplier 87 = .ok (.aload_n 3, 1) := by decide +kernel
theorem dX1_allowsMultiplier_88 : decode cX1_allowsMultiplier 88 = .ok (.iload_n 2, 1) := by decide +kernel
theorem dX1_allowsMultiplier_89 : decode cX1_allowsMultiplier 89 = .ok (.iload 7, 2) := by decide +kernel
theorem dX1_allowsMultiplier_91 : decode cX1_allowsMultiplier 91 = .ok (.iload 6, 2) := by decide +kernel
theorem dX1_allowsMultiplier_93 : decode cX1_allowsMultiplier 93 = .ok (.iload 4, 2) := by decide +kernel
theorem dX1_allowsMultiplier_95 : decode cX1_allowsMultiplier 95 = .ok (.invokestatic 39, 3) := by decide +kernel
theorem dX1_allowsMultiplier_98 : decode cX1_allowsMultiplier 98 = .ok (.invokevirtual 106, 3) := by decide +kernel
theorem dX1_allowsMultiplier_101 : decode cX1_allowsMultiplier 101 = .ok (.ireturn, 1) := by decide +kernel
theorem dX1_allowsQuotient_0 : decode cX1_allowsQuotient 0 = .ok (.aload_n 2, 1) := by decide +kernel
theorem dX1_allowsQuotient_1 : decode cX1_allowsQuotient 1 = .ok (.getfield 103, 3) := by decide +kernel
theorem dX1_allowsQuotient_4 : decode cX1_allowsQuotient 4 = .ok (.aload_n 0, 1) := by decide +kernel
theorem dX1_allowsQuotient_5 : decode cX1_allowsQuotient 5 = .ok (.getfield 21, 3) := by decide +kernel
theorem dX1_allowsQuotient_8 : decode cX1_allowsQuotient 8 = .ok (.iaload, 1) := by decide +kernel
theorem dX1_allowsQuotient_9 : decode cX1_allowsQuotient 9 = .ok (.istore_n 3, 1) := by decide +kernel
theorem dX1_allowsQuotient_10 : decode cX1_allowsQuotient 10 = .ok (.iload_n 3, 1) := by decide +kernel
theorem dX1_allowsQuotient_11 : decode cX1_allowsQuotient 11 = .ok (.aload_n 2, 1) := by decide +kernel
theorem dX1_allowsQuotient_12 : decode cX1_allowsQuotient 12 = .ok (.getfield 100, 3) := by decide +kernel
theorem dX1_allowsQuotient_15 : decode cX1_allowsQuotient 15 = .ok (.aload_n 0, 1) := by decide +kernel
theorem dX1_allowsQuotient_16 : decode cX1_allowsQuotient 16 = .ok (.getfield 21, 3) := by decide +kernel
theorem dX1_allowsQuotient_19 : decode cX1_allowsQuotient 19 = .ok (.iaload, 1) := by decide +kernel
theorem dX1_allowsQuotient_20 : decode cX1_allowsQuotient 20 = .ok (.if_icmp .gt 68, 3) := by decide +kernel
theorem dX1_allowsQuotient_23 : decode cX1_allowsQuotient 23 = .ok (.iload_n 3, 1) := by decide +kernel
theorem dX1_allowsQuotient_24 : decode cX1_allowsQuotient 24 = .ok (.ifCond .le 9, 3) := by decide +kernel
theorem dX1_allowsQuotient_27 : decode cX1_allowsQuotient 27 = .ok (.iload_n 1, 1) := by decide +kernel
theorem dX1_allowsQuotient_28 : decode cX1_allowsQuotient 28 = .ok (.iload_n 3, 1) := by decide +kernel
theorem dX1_allowsQuotient_29 : decode cX1_allowsQuotient 29 = .ok (.imul, 1) := by decide +kernel
theorem dX1_allowsQuotient_30 : decode cX1_allowsQuotient 30 = .ok (.goto 10, 3) := by decide +kernel
theorem dX1_allowsQuotient_33 : decode cX1_allowsQuotient 33 = .ok (.iload_n 1, 1) := by decide +kernel
theorem dX1_allowsQuotient_34 : decode cX1_allowsQuotient 34 = .ok (.iconst 1, 1) := by decide +kernel
theorem dX1_allowsQuotient_35 : decode cX1_allowsQuotient 35 = .ok (.iadd, 1) := by decide +kernel
theorem dX1_allowsQuotient_36 : decode cX1_allowsQuotient 36 = .ok (.iload_n 3, 1) := by decide +kernel
theorem dX1_allowsQuotient_37 : decode cX1_allowsQuotient 37 = .ok (.imul, 1) := by decide +kernel
theorem dX1_allowsQuotient_38 : decode cX1_allowsQuotient 38 = .ok (.iconst 1, 1) := by decide +kernel
theorem dX1_allowsQuotient_39 : decode cX1_allowsQuotient 39 = .ok (.iadd, 1) := by decide +kernel
theorem dX1_allowsQuotient_40 : decode cX1_allowsQuotient 40 = .ok (.istore 4, 2) := by decide +kernel
theorem dX1_allowsQuotient_42 : decode cX1_allowsQuotient 42 = .ok (.iload_n 3, 1) := by decide +kernel
theorem dX1_allowsQuotient_43 : decode cX1_allowsQuotient 43 = .ok (.ifCond .le 13, 3) := by decide +kernel
theorem dX1_allowsQuotient_46 : decode cX1_allowsQuotient 46 = .ok (.iload_n 1, 1) := by decide +kernel
theorem dX1_allowsQuotient_47 : decode cX1_allowsQuotient 47 = .ok (.iload_n 3, 1) := by decide +kernel
theorem dX1_allowsQuotient_48 : decode cX1_allowsQuotient 48 = .ok (.imul, 1) := by decide +kernel
theorem dX1_allowsQuotient_49 : decode cX1_allowsQuotient 49 = .ok (.iload_n 3, 1) := by decide +kernel
theorem dX1_allowsQuotient_50 : decode cX1_allowsQuotient 50 = .ok (.iadd, 1) := by decide +kernel
theorem dX1_allowsQuotient_51 : decode cX1_allowsQuotient 51 = .ok (.iconst 1, 1) := by decide +kernel
theorem dX1_allowsQuotient_52 : decode cX1_allowsQuotient 52 = .ok (.isub, 1) := by decide +kernel
theorem dX1_allowsQuotient_53 : decode cX1_allowsQuotient 53 = .ok (.goto 6, 3) := by decide +kernel
theorem dX1_allowsQuotient_56 : decode cX1_allowsQuotient 56 = .ok (.iload_n 1, 1) := by decide +kernel
theorem dX1_allowsQuotient_57 : decode cX1_allowsQuotient 57 = .ok (.iload_n 3, 1) := by decide +kernel
theorem dX1_allowsQuotient_58 : decode cX1_allowsQuotient 58 = .ok (.imul, 1) := by decide +kernel
theorem dX1_allowsQuotient_59 : decode cX1_allowsQuotient 59 = .ok (.istore 5, 2) := by decide +kernel
theorem dX1_allowsQuotient_61 : decode cX1_allowsQuotient 61 = .ok (.iload_n 3, 1) := by decide +kernel
theorem dX1_allowsQuotient_62 : decode cX1_allowsQuotient 62 = .ok (.ifCond .eq 20, 3) := by decide +kernel
theorem dX1_allowsQuotient_65 : decode cX1_allowsQuotient 65 = .ok (.aload_n 2, 1) := by decide +kernel
theorem dX1_allowsQuotient_66 : decode cX1_allowsQuotient 66 = .ok (.aload_n 0, 1) := by decide +kernel
theorem dX1_allowsQuotient_67 : decode cX1_allowsQuotient 67 = .ok (.getfield 18, 3) := by decide +kernel
theorem dX1_allowsQuotient_70 : decode cX1_allowsQuotient 70 = .ok (.iload 4, 2) := by decide +kernel
theorem dX1_allowsQuotient_72 : decode cX1_allowsQuotient 72 = .ok (.iload 5, 2) := by decide +kernel
theorem dX1_allowsQuotient_74 : decode cX1_allowsQuotient 74 = .ok (.invokevirtual 106, 3) := by decide +kernel
theorem dX1_allowsQuotient_77 : decode cX1_allowsQuotient 77 = .ok (.ifCond .eq 5, 3) := by decide +kernel
theorem dX1_allowsQuotient_80 : decode cX1_allowsQuotient 80 = .ok (.iconst 1, 1) := by decide +kernel
theorem dX1_allowsQuotient_81 : decode cX1_allowsQuotient 81 = .ok (.ireturn, 1) := by decide +kernel
theorem dX1_allowsQuotient_82 : decode cX1_allowsQuotient 82 = .ok (.iinc 3 1, 3) := by decide +kernel
theorem dX1_allowsQuotient_85 : decode cX1_allowsQuotient 85 = .ok (.goto (-75), 3) := by decide +kernel
theorem dX1_allowsQuotient_88 : decode cX1_allowsQuotient 88 = .ok (.iconst 0, 1) := by decide +kernel
theorem dX1_allowsQuotient_89 : decode cX1_allowsQuotient 89 = .ok (.ireturn, 1) := by decide +kernel
theorem dX1_allowsDividend_0 : decode cX1_allowsDividend 0 = .ok (.aload_n 2, 1) := by decide +kernel
theorem dX1_allowsDividend_1 : decode cX1_allowsDividend 1 = .ok (.getfield 103, 3) := by decide +kernel
theorem dX1_allowsDividend_4 : decode cX1_allowsDividend 4 = .ok (.aload_n 0, 1) := by decide +kernel
theorem dX1_allowsDividend_5 : decode cX1_allowsDividend 5 = .ok (.getfield 21, 3) := by decide +kernel
theorem dX1_allowsDividend_8 : decode cX1_allowsDividend 8 = .ok (.iaload, 1) := by decide +kernel
theorem dX1_allowsDividend_9 : decode cX1_allowsDividend 9 = .ok (.istore_n 3, 1) := by decide +kernel
theorem dX1_allowsDividend_10 : decode cX1_allowsDividend 10 = .ok (.iload_n 3, 1) := by decide +kernel
theorem dX1_allowsDividend_11 : decode cX1_allowsDividend 11 = .ok (.aload_n 2, 1) := by decide +kernel
theorem dX1_allowsDividend_12 : decode cX1_allowsDividend 12 = .ok (.getfield 100, 3) := by decide +kernel
theorem dX1_allowsDividend_15 : decode cX1_allowsDividend 15 = .ok (.aload_n 0, 1) := by decide +kernel
theorem dX1_allowsDividend_16 : decode cX1_allowsDividend 16 = .ok (.getfield 21, 3) := by decide +kernel
theorem dX1_allowsDividend_19 : decode cX1_allowsDividend 19 = .ok (.iaload, 1) := by decide +kernel
theorem dX1_allowsDividend_20 : decode cX1_allowsDividend 20 = .ok (.if_icmp .gt 31, 3) := by decide +kernel
theorem dX1_allowsDividend_23 : decode cX1_allowsDividend 23 = .ok (.iload_n 3, 1) := by decide +kernel
theorem dX1_allowsDividend_24 : decode cX1_allowsDividend 24 = .ok (.ifCond .eq 21, 3) := by decide +kernel
theorem dX1_allowsDividend_27 : decode cX1_allowsDividend 27 = .ok (.aload_n 2, 1) := by decide +kernel
theorem dX1_allowsDividend_28 : decode cX1_allowsDividend 28 = .ok (.aload_n 0, 1) := by decide +kernel
theorem dX1_allowsDividend_29 : decode cX1_allowsDividend 29 = .ok (.getfield 15, 3) := by decide +kernel
theorem dX1_allowsDividend_32 : decode cX1_allowsDividend 32 = .ok (.iload_n 1, 1) := by decide +kernel
theorem dX1_allowsDividend_33 : decode cX1_allowsDividend 33 = .ok (.iload_n 3, 1) := by decide +kernel
theorem dX1_allowsDividend_34 : decode cX1_allowsDividend 34 = .ok (.invokestatic 39, 3) := by decide +kernel
theorem dX1_allowsDividend_37 : decode cX1_allowsDividend 37 = .ok (.invokevirtual 75, 3) := by decide +kernel
theorem dX1_allowsDividend_40 : decode cX1_allowsDividend 40 = .ok (.ifCond .eq 5, 3) := by decide +kernel
theorem dX1_allowsDividend_43 : decode cX1_allowsDividend 43 = .ok (.iconst 1, 1) := by decide +kernel
theorem dX1_allowsDividend_44 : decode cX1_allowsDividend 44 = .ok (.ireturn, 1) := by decide +kernel
theorem dX1_allowsDividend_45 : decode cX1_allowsDividend 45 = .ok (.iinc 3 1, 3) := by decide +kernel
theorem dX1_allowsDividend_48 : decode cX1_allowsDividend 48 = .ok (.goto (-38), 3) := by decide +kernel
theorem dX1_allowsDividend_51 : decode cX1_allowsDividend 51 = .ok (.iconst 0, 1) := by decide +kernel
theorem dX1_allowsDividend_52 : decode cX1_allowsDividend 52 = .ok (.ireturn, 1) := by decide +kernel
theorem dX1_allowsDivisor_0 : decode cX1_allowsDivisor 0 = .ok (.iload_n 1, 1) := by decide +kernel
theorem dX1_allowsDivisor_1 : decode cX1_allowsDivisor 1 = .ok (.ifCond .ne 5, 3) := by decide +kernel
theorem dX1_allowsDivisor_4 : decode cX1_allowsDivisor 4 = .ok (.iconst 0, 1) := by decide +kernel
theorem dX1_allowsDivisor_5 : decode cX1_allowsDivisor 5 = .ok (.ireturn, 1) := by decide +kernel
theorem dX1_allowsDivisor_6 : decode cX1_allowsDivisor 6 = .ok (.aload_n 2, 1) := by decide +kernel
theorem dX1_allowsDivisor_7 : decode cX1_allowsDivisor 7 = .ok (.getfield 103, 3) := by decide +kernel
theorem dX1_allowsDivisor_10 : decode cX1_allowsDivisor 10 = .ok (.aload_n 0, 1) := by decide +kernel
theorem dX1_allowsDivisor_11 : decode cX1_allowsDivisor 11 = .ok (.getfield 18, 3) := by decide +kernel
theorem dX1_allowsDivisor_14 : decode cX1_allowsDivisor 14 = .ok (.iaload, 1) := by decide +kernel
theorem dX1_allowsDivisor_15 : decode cX1_allowsDivisor 15 = .ok (.iload_n 1, 1) := by decide +kernel
theorem dX1_allowsDivisor_16 : decode cX1_allowsDivisor 16 = .ok (.invokestatic 39, 3) := by decide +kernel
theorem dX1_allowsDivisor_19 : decode cX1_allowsDivisor 19 = .ok (.istore_n 3, 1) := by decide +kernel
theorem dX1_allowsDivisor_20 : decode cX1_allowsDivisor 20 = .ok (.aload_n 2, 1) := by decide +kernel
theorem dX1_allowsDivisor_21 : decode cX1_allowsDivisor 21 = .ok (.getfield 100, 3) := by decide +kernel
theorem dX1_allowsDivisor_24 : decode cX1_allowsDivisor 24 = .ok (.aload_n 0, 1) := by decide +kernel
theorem dX1_allowsDivisor_25 : decode cX1_allowsDivisor 25 = .ok (.getfield 18, 3) := by decide +kernel
theorem dX1_allowsDivisor_28 : decode cX1_allowsDivisor 28 = .ok (.iaload, 1) := by decide +kernel
theorem dX1_allowsDivisor_29 : decode cX1_allowsDivisor 29 = .ok (.iload_n 1, 1) := by decide +kernel
theorem dX1_allowsDivisor_30 : decode cX1_allowsDivisor 30 = .ok (.invokestatic 39, 3) := by decide +kernel
theorem dX1_allowsDivisor_33 : decode cX1_allowsDivisor 33 = .ok (.istore 4, 2) := by decide +kernel
theorem dX1_allowsDivisor_35 : decode cX1_allowsDivisor 35 = .ok (.aload_n 2, 1) := by decide +kernel
theorem dX1_allowsDivisor_36 : decode cX1_allowsDivisor 36 = .ok (.aload_n 0, 1) := by decide +kernel
theorem dX1_allowsDivisor_37 : decode cX1_allowsDivisor 37 = .ok (.getfield 15, 3) := by decide +kernel
theorem dX1_allowsDivisor_40 : decode cX1_allowsDivisor 40 = .ok (.iload_n 3, 1) := by decide +kernel
theorem dX1_allowsDivisor_41 : decode cX1_allowsDivisor 41 = .ok (.iload 4, 2) := by decide +kernel
theorem dX1_allowsDivisor_43 : decode cX1_allowsDivisor 43 = .ok (.invokestatic 52, 3) := by decide +kernel
theorem dX1_allowsDivisor_46 : decode cX1_allowsDivisor 46 = .ok (.iload_n 3, 1) := by decide +kernel
theorem dX1_allowsDivisor_47 : decode cX1_allowsDivisor 47 = .ok (.iload 4, 2) := by decide +kernel
theorem dX1_allowsDivisor_49 : decode cX1_allowsDivisor 49 = .ok (.invokestatic 49, 3) := by decide +kernel
theorem dX1_allowsDivisor_52 : decode cX1_allowsDivisor 52 = .ok (.invokevirtual 106, 3) := by decide +kernel
theorem dX1_allowsDivisor_55 : decode cX1_allowsDivisor 55 = .ok (.ireturn, 1) := by decide +kernel
theorem dX1_allowsGreatest_0 : decode cX1_allowsGreatest 0 = .ok (.aload_n 2, 1) := by decide +kernel
theorem dX1_allowsGreatest_1 : decode cX1_allowsGreatest 1 = .ok (.aload_n 0, 1) := by decide +kernel
theorem dX1_allowsGreatest_2 : decode cX1_allowsGreatest 2 = .ok (.getfield 18, 3) := by decide +kernel
theorem dX1_allowsGreatest_5 : decode cX1_allowsGreatest 5 = .ok (.iload_n 1, 1) := by decide +kernel
theorem dX1_allowsGreatest_6 : decode cX1_allowsGreatest 6 = .ok (.invokevirtual 75, 3) := by decide +kernel
theorem dX1_allowsGreatest_9 : decode cX1_allowsGreatest 9 = .ok (.ifCond .eq 16, 3) := by decide +kernel
theorem dX1_allowsGreatest_12 : decode cX1_allowsGreatest 12 = .ok (.aload_n 2, 1) := by decide +kernel
theorem dX1_allowsGreatest_13 : decode cX1_allowsGreatest 13 = .ok (.getfield 103, 3) := by decide +kernel
theorem dX1_allowsGreatest_16 : decode cX1_allowsGreatest 16 = .ok (.aload_n 0, 1) := by decide +kernel
theorem dX1_allowsGreatest_17 : decode cX1_allowsGreatest 17 = .ok (.getfield 21, 3) := by decide +kernel
theorem dX1_allowsGreatest_20 : decode cX1_allowsGreatest 20 = .ok (.iaload, 1) := by decide +kernel
theorem dX1_allowsGreatest_21 : decode cX1_allowsGreatest 21 = .ok (.iload_n 1, 1) := by decide +kernel
theorem dX1_allowsGreatest_22 : decode cX1_allowsGreatest 22 = .ok (.if_icmp .le 28, 3) := by decide +kernel
theorem dX1_allowsGreatest_25 : decode cX1_allowsGreatest 25 = .ok (.aload_n 2, 1) := by decide +kernel
theorem dX1_allowsGreatest_26 : decode cX1_allowsGreatest 26 = .ok (.aload_n 0, 1) := by decide +kernel
theorem dX1_allowsGreatest_27 : decode cX1_allowsGreatest 27 = .ok (.getfield 21, 3) := by decide +kernel
theorem dX1_allowsGreatest_30 : decode cX1_allowsGreatest 30 = .ok (.iload_n 1, 1) := by decide +kernel
theorem dX1_allowsGreatest_31 : decode cX1_allowsGreatest 31 = .ok (.invokevirtual 75, 3) := by decide +kernel
theorem dX1_allowsGreatest_34 : decode cX1_allowsGreatest 34 = .ok (.ifCond .eq 20, 3) := by decide +kernel
theorem dX1_allowsGreatest_37 : decode cX1_allowsGreatest 37 = .ok (.aload_n 2, 1) := by decide +kernel
theorem dX1_allowsGreatest_38 : decode cX1_allowsGreatest 38 = .ok (.getfield 103, 3) := by decide +kernel
theorem dX1_allowsGreatest_41 : decode cX1_allowsGreatest 41 = .ok (.aload_n 0, 1) := by decide +kernel
theorem dX1_allowsGreatest_42 : decode cX1_allowsGreatest 42 = .ok (.getfield 18, 3) := by decide +kernel
theorem dX1_allowsGreatest_45 : decode cX1_allowsGreatest 45 = .ok (.iaload, 1) := by decide +kernel
theorem dX1_allowsGreatest_46 : decode cX1_allowsGreatest 46 = .ok (.iload_n 1, 1) := by decide +kernel
theorem dX1_allowsGreatest_47 : decode cX1_allowsGreatest 47 = .ok (.if_icmp .gt 7, 3) := by decide +kernel
theorem dX1_allowsGreatest_50 : decode cX1_allowsGreatest 50 = .ok (.iconst 1, 1) := by decide +kernel
theorem dX1_allowsGreatest_51 : decode cX1_allowsGreatest 51 = .ok (.goto 4, 3) := by decide +kernel
theorem dX1_allowsGreatest_54 : decode cX1_allowsGreatest 54 = .ok (.iconst 0, 1) := by decide +kernel
theorem dX1_allowsGreatest_55 : decode cX1_allowsGreatest 55 = .ok (.ireturn, 1) := by decide +kernel
theorem dX1_allowsBesideGreatest_0 : decode cX1_allowsBesideGreatest 0 = .ok (.aload_n 3, 1) := by decide +kernel
theorem dX1_allowsBesideGreatest_1 : decode cX1_allowsBesideGreatest 1 = .ok (.aload_n 0, 1) := by decide +kernel
theorem dX1_allowsBesideGreatest_2 : decode cX1_allowsBesideGreatest 2 = .ok (.getfield 15, 3) := by decide +kernel
theorem dX1_allowsBesideGreatest_5 : decode cX1_allowsBesideGreatest 5 = .ok (.iload_n 1, 1) := by decide +kernel
theorem dX1_allowsBesideGreatest_6 : decode cX1_allowsBesideGreatest 6 = .ok (.aload_n 3, 1) := by decide +kernel
theorem dX1_allowsBesideGreatest_7 : decode cX1_allowsBesideGreatest 7 = .ok (.getfield 103, 3) := by decide +kernel
theorem dX1_allowsBesideGreatest_10 : decode cX1_allowsBesideGreatest 10 = .ok (.iload_n 2, 1) := by decide +kernel
theorem dX1_allowsBesideGreatest_11 : decode cX1_allowsBesideGreatest 11 = .ok (.iaload, 1) := by decide +kernel
theorem dX1_allowsBesideGreatest_12 : decode cX1_allowsBesideGreatest 12 = .ok (.invokestatic 49, 3) := by decide +kernel
theorem dX1_allowsBesideGreatest_15 : decode cX1_allowsBesideGreatest 15 = .ok (.iload_n 1, 1) := by decide +kernel
theorem dX1_allowsBesideGreatest_16 : decode cX1_allowsBesideGreatest 16 = .ok (.aload_n 3, 1) := by decide +kernel
theorem dX1_allowsBesideGreatest_17 : decode cX1_allowsBesideGreatest 17 = .ok (.getfield 100, 3) := by decide +kernel
theorem dX1_allowsBesideGreatest_20 : decode cX1_allowsBesideGreatest 20 = .ok (.iload_n 2, 1) := by decide +kernel
theorem dX1_allowsBesideGreatest_21 : decode cX1_allowsBesideGreatest 21 = .ok (.iaload, 1) := by decide +kernel
theorem dX1_allowsBesideGreatest_22 : decode cX1_allowsBesideGreatest 22 = .ok (.invokestatic 49, 3) := by decide +kernel
theorem dX1_allowsBesideGreatest_25 : decode cX1_allowsBesideGreatest 25 = .ok (.invokevirtual 106, 3) := by decide +kernel
theorem dX1_allowsBesideGreatest_28 : decode cX1_allowsBesideGreatest 28 = .ok (.ireturn, 1) := by decide +kernel
theorem dX1_allowsLeast_0 : decode cX1_allowsLeast 0 = .ok (.aload_n 2, 1) := by decide +kernel
theorem dX1_allowsLeast_1 : decode cX1_allowsLeast 1 = .ok (.aload_n 0, 1) := by decide +kernel
theorem dX1_allowsLeast_2 : decode cX1_allowsLeast 2 = .ok (.getfield 18, 3) := by decide +kernel
theorem dX1_allowsLeast_5 : decode cX1_allowsLeast 5 = .ok (.iload_n 1, 1) := by decide +kernel
theorem dX1_allowsLeast_6 : decode cX1_allowsLeast 6 = .ok (.invokevirtual 75, 3) := by decide +kernel
theorem dX1_allowsLeast_9 : decode cX1_allowsLeast 9 = .ok (.ifCond .eq 16, 3) := by decide +kernel
theorem dX1_allowsLeast_12 : decode cX1_allowsLeast 12 = .ok (.aload_n 2, 1) := by decide +kernel
theorem dX1_allowsLeast_13 : decode cX1_allowsLeast 13 = .ok (.getfield 100, 3) := by decide +kernel
theorem dX1_allowsLeast_16 : decode cX1_allowsLeast 16 = .ok (.aload_n 0, 1) := by decide +kernel
theorem dX1_allowsLeast_17 : decode cX1_allowsLeast 17 = .ok (.getfield 21, 3) := by decide +kernel
theorem dX1_allowsLeast_20 : decode cX1_allowsLeast 20 = .ok (.iaload, 1) := by decide +kernel
theorem dX1_allowsLeast_21 : decode cX1_allowsLeast 21 = .ok (.iload_n 1, 1) := by decide +kernel
theorem dX1_allowsLeast_22 : decode cX1_allowsLeast 22 = .ok (.if_icmp .ge 28, 3) := by decide +kernel
theorem dX1_allowsLeast_25 : decode cX1_allowsLeast 25 = .ok (.aload_n 2, 1) := by decide +kernel
theorem dX1_allowsLeast_26 : decode cX1_allowsLeast 26 = .ok (.aload_n 0, 1) := by decide +kernel
theorem dX1_allowsLeast_27 : decode cX1_allowsLeast 27 = .ok (.getfield 21, 3) := by decide +kernel
theorem dX1_allowsLeast_30 : decode cX1_allowsLeast 30 = .ok (.iload_n 1, 1) := by decide +kernel
theorem dX1_allowsLeast_31 : decode cX1_allowsLeast 31 = .ok (.invokevirtual 75, 3) := by decide +kernel
theorem dX1_allowsLeast_34 : decode cX1_allowsLeast 34 = .ok (.ifCond .eq 20, 3) := by decide +kernel
theorem dX1_allowsLeast_37 : decode cX1_allowsLeast 37 = .ok (.aload_n 2, 1) := by decide +kernel
theorem dX1_allowsLeast_38 : decode cX1_allowsLeast 38 = .ok (.getfield 100, 3) := by decide +kernel
theorem dX1_allowsLeast_41 : decode cX1_allowsLeast 41 = .ok (.aload_n 0, 1) := by decide +kernel
theorem dX1_allowsLeast_42 : decode cX1_allowsLeast 42 = .ok (.getfield 18, 3) := by decide +kernel
theorem dX1_allowsLeast_45 : decode cX1_allowsLeast 45 = .ok (.iaload, 1) := by decide +kernel
theorem dX1_allowsLeast_46 : decode cX1_allowsLeast 46 = .ok (.iload_n 1, 1) := by decide +kernel
theorem dX1_allowsLeast_47 : decode cX1_allowsLeast 47 = .ok (.if_icmp .lt 7, 3) := by decide +kernel
theorem dX1_allowsLeast_50 : decode cX1_allowsLeast 50 = .ok (.iconst 1, 1) := by decide +kernel
theorem dX1_allowsLeast_51 : decode cX1_allowsLeast 51 = .ok (.goto 4, 3) := by decide +kernel
theorem dX1_allowsLeast_54 : decode cX1_allowsLeast 54 = .ok (.iconst 0, 1) := by decide +kernel
theorem dX1_allowsLeast_55 : decode cX1_allowsLeast 55 = .ok (.ireturn, 1) := by decide +kernel
theorem dX1_allowsBesideLeast_0 : decode cX1_allowsBesideLeast 0 = .ok (.aload_n 3, 1) := by decide +kernel
theorem dX1_allowsBesideLeast_1 : decode cX1_allowsBesideLeast 1 = .ok (.aload_n 0, 1) := by decide +kernel
theorem dX1_allowsBesideLeast_2 : decode cX1_allowsBesideLeast 2 = .ok (.getfield 15, 3) := by decide +kernel
theorem dX1_allowsBesideLeast_5 : decode cX1_allowsBesideLeast 5 = .ok (.iload_n 1, 1) := by decide +kernel
theorem dX1_allowsBesideLeast_6 : decode cX1_allowsBesideLeast 6 = .ok (.aload_n 3, 1) := by decide +kernel
theorem dX1_allowsBesideLeast_7 : decode cX1_allowsBesideLeast 7 = .ok (.getfield 103, 3) := by decide +kernel
theorem dX1_allowsBesideLeast_10 : decode cX1_allowsBesideLeast 10 = .ok (.iload_n 2, 1) := by decide +kernel
theorem dX1_allowsBesideLeast_11 : decode cX1_allowsBesideLeast 11 = .ok (.iaload, 1) := by decide +kernel
theorem dX1_allowsBesideLeast_12 : decode cX1_allowsBesideLeast 12 = .ok (.invokestatic 52, 3) := by decide +kernel
theorem dX1_allowsBesideLeast_15 : decode cX1_allowsBesideLeast 15 = .ok (.iload_n 1, 1) := by decide +kernel
theorem dX1_allowsBesideLeast_16 : decode cX1_allowsBesideLeast 16 = .ok (.aload_n 3, 1) := by decide +kernel
theorem dX1_allowsBesideLeast_17 : decode cX1_allowsBesideLeast 17 = .ok (.getfield 100, 3) := by decide +kernel
theorem dX1_allowsBesideLeast_20 : decode cX1_allowsBesideLeast 20 = .ok (.iload_n 2, 1) := by decide +kernel
theorem dX1_allowsBesideLeast_21 : decode cX1_allowsBesideLeast 21 = .ok (.iaload, 1) := by decide +kernel
theorem dX1_allowsBesideLeast_22 : decode cX1_allowsBesideLeast 22 = .ok (.invokestatic 52, 3) := by decide +kernel
theorem dX1_allowsBesideLeast_25 : decode cX1_allowsBesideLeast 25 = .ok (.invokevirtual 106, 3) := by decide +kernel
theorem dX1_allowsBesideLeast_28 : decode cX1_allowsBesideLeast 28 = .ok (.ireturn, 1) := by decide +kernel
theorem dX1_allowsInCount_0 : decode cX1_allowsInCount 0 = .ok (.iload_n 1, 1) := by decide +kernel
theorem dX1_allowsInCount_1 : decode cX1_allowsInCount 1 = .ok (.aload_n 0, 1) := by decide +kernel
theorem dX1_allowsInCount_2 : decode cX1_allowsInCount 2 = .ok (.getfield 15, 3) := by decide +kernel
theorem dX1_allowsInCount_5 : decode cX1_allowsInCount 5 = .ok (.if_icmp .ne 21, 3) := by decide +kernel
theorem dX1_allowsInCount_8 : decode cX1_allowsInCount 8 = .ok (.iload 4, 2) := by decide +kernel
theorem dX1_allowsInCount_10 : decode cX1_allowsInCount 10 = .ok (.iload_n 2, 1) := by decide +kernel
theorem dX1_allowsInCount_11 : decode cX1_allowsInCount 11 = .ok (.if_icmp .gt 13, 3) := by decide +kernel
theorem dX1_allowsInCount_14 : decode cX1_allowsInCount 14 = .ok (.iload_n 2, 1) := by decide +kernel
theorem dX1_allowsInCount_15 : decode cX1_allowsInCount 15 = .ok (.iload 5, 2) := by decide +kernel
theorem dX1_allowsInCount_17 : decode cX1_allowsInCount 17 = .ok (.if_icmp .gt 7, 3) := by decide +kernel
theorem dX1_allowsInCount_20 : decode cX1_allowsInCount 20 = .ok (.iconst 1, 1) := by decide +kernel
theorem dX1_allowsInCount_21 : decode cX1_allowsInCount 21 = .ok (.goto 4, 3) := by decide +kernel
theorem dX1_allowsInCount_24 : decode cX1_allowsInCount 24 = .ok (.iconst 0, 1) := by decide +kernel
theorem dX1_allowsInCount_25 : decode cX1_allowsInCount 25 = .ok (.ireturn, 1) := by decide +kernel
theorem dX1_allowsInCount_26 : decode cX1_allowsInCount 26 = .ok (.iload_n 2, 1) := by decide +kernel
theorem dX1_allowsInCount_27 : decode cX1_allowsInCount 27 = .ok (.aload_n 0, 1) := by decide +kernel
theorem dX1_allowsInCount_28 : decode cX1_allowsInCount 28 = .ok (.getfield 24, 3) := by decide +kernel
theorem dX1_allowsInCount_31 : decode cX1_allowsInCount 31 = .ok (.if_icmp .ne 7, 3) := by decide +kernel
theorem dX1_allowsInCount_34 : decode cX1_allowsInCount 34 = .ok (.iconst 1, 1) := by decide +kernel
theorem dX1_allowsInCount_35 : decode cX1_allowsInCount 35 = .ok (.goto 4, 3) := by decide +kernel
theorem dX1_allowsInCount_38 : decode cX1_allowsInCount 38 = .ok (.iconst 0, 1) := by decide +kernel
theorem dX1_allowsInCount_39 : decode cX1_allowsInCount 39 = .ok (.istore 6, 2) := by decide +kernel
theorem dX1_allowsInCount_41 : decode cX1_allowsInCount 41 = .ok (.aload_n 3, 1) := by decide +kernel
theorem dX1_allowsInCount_42 : decode cX1_allowsInCount 42 = .ok (.aload_n 0, 1) := by decide +kernel
theorem dX1_allowsInCount_43 : decode cX1_allowsInCount 43 = .ok (.getfield 15, 3) := by decide +kernel
theorem dX1_allowsInCount_46 : decode cX1_allowsInCount 46 = .ok (.iload 4, 2) := by decide +kernel
theorem dX1_allowsInCount_48 : decode cX1_allowsInCount 48 = .ok (.iload 6, 2) := by decide +kernel
theorem dX1_allowsInCount_50 : decode cX1_allowsInCount 50 = .ok (.iadd, 1) := by decide +kernel
theorem dX1_allowsInCount_51 : decode cX1_allowsInCount 51 = .ok (.iload 5, 2) := by decide +kernel
theorem dX1_allowsInCount_53 : decode cX1_allowsInCount 53 = .ok (.iload 6, 2) := by decide +kernel
theorem dX1_allowsInCount_55 : decode cX1_allowsInCount 55 = .ok (.iadd, 1) := by decide +kernel
theorem dX1_allowsInCount_56 : decode cX1_allowsInCount 56 = .ok (.invokevirtual 106, 3) := by decide +kernel
theorem dX1_allowsInCount_59 : decode cX1_allowsInCount 59 = .ok (.ireturn, 1) := by decide +kernel
theorem dX2_init_0 : decode cX2_init 0 = .ok (.aload_n 0, 1) := by decide +kernel
theorem dX2_init_1 : decode cX2_init 1 = .ok (.invokespecial 3, 3) := by decide +kernel
theorem dX2_init_4 : decode cX2_init 4 = .ok (.aload_n 0, 1) := by decide +kernel
theorem dX2_init_5 : decode cX2_init 5 = .ok (.iconst 0, 1) := by decide +kernel
theorem dX2_init_6 : decode cX2_init 6 = .ok (.putfield 9, 3) := by decide +kernel
theorem dX2_init_9 : decode cX2_init 9 = .ok (.aload_n 0, 1) := by decide +kernel
theorem dX2_init_10 : decode cX2_init 10 = .ok (.bipush 12, 2) := by decide +kernel
theorem dX2_init_12 : decode cX2_init 12 = .ok (.anewarray 15, 3) := by decide +kernel
theorem dX2_init_15 : decode cX2_init 15 = .ok (.putfield 17, 3) := by decide +kernel
theorem dX2_init_18 : decode cX2_init 18 = .ok (.iconst 0, 1) := by decide +kernel
theorem dX2_init_19 : decode cX2_init 19 = .ok (.istore_n 1, 1) := by decide +kernel
theorem dX2_init_20 : decode cX2_init 20 = .ok (.iload_n 1, 1) := by decide +kernel
theorem dX2_init_21 : decode cX2_init 21 = .ok (.bipush 12, 2) := by decide +kernel
theorem dX2_init_23 : decode cX2_init 23 = .ok (.if_icmp .ge 22, 3) := by decide +kernel
theorem dX2_init_26 : decode cX2_init 26 = .ok (.aload_n 0, 1) := by decide +kernel
theorem dX2_init_27 : decode cX2_init 27 = .ok (.getfield 17, 3) := by decide +kernel
theorem dX2_init_30 : decode cX2_init 30 = .ok (.iload_n 1, 1) := by decide +kernel
theorem dX2_init_31 : decode cX2_init 31 = .ok (.new 15, 3) := by decide +kernel
theorem dX2_init_34 : decode cX2_init 34 = .ok (.dup, 1) := by decide +kernel
theorem dX2_init_35 : decode cX2_init 35 = .ok (.invokespecial 21, 3) := by decide +kernel
theorem dX2_init_38 : decode cX2_init 38 = .ok (.aastore, 1) := by decide +kernel
theorem dX2_init_39 : decode cX2_init 39 = .ok (.iinc 1 1, 3) := by decide +kernel
theorem dX2_init_42 : decode cX2_init 42 = .ok (.goto (-22), 3) := by decide +kernel
theorem dX2_init_45 : decode cX2_init 45 = .ok (.return_, 1) := by decide +kernel
theorem dX3_init_0 : decode cX3_init 0 = .ok (.aload_n 0, 1) := by decide +kernel
theorem dX3_init_1 : decode cX3_init 1 = .ok (.invokespecial 3, 3) := by decide +kernel
theorem dX3_init_4 : decode cX3_init 4 = .ok (.aload_n 0, 1) := by decide +kernel
theorem dX3_init_5 : decode cX3_init 5 = .ok (.iconst 0, 1) := by decide +kernel
theorem dX3_init_6 : decode cX3_init 6 = .ok (.putfield 9, 3) := by decide +kernel
theorem dX3_init_9 : decode cX3_init 9 = .ok (.aload_n 0, 1) := by decide +kernel
theorem dX3_init_10 : decode cX3_init 10 = .ok (.bipush 8, 2) := by decide +kernel
theorem dX3_init_12 : decode cX3_init 12 = .ok (.newarray .long, 2) := by decide +kernel
theorem dX3_init_14 : decode cX3_init 14 = .ok (.putfield 15, 3) := by decide +kernel
theorem dX3_init_17 : decode cX3_init 17 = .ok (.aload_n 0, 1) := by decide +kernel
theorem dX3_init_18 : decode cX3_init 18 = .ok (.bipush 8, 2) := by decide +kernel
theorem dX3_init_20 : decode cX3_init 20 = .ok (.newarray .long, 2) := by decide +kernel
theorem dX3_init_22 : decode cX3_init 22 = .ok (.putfield 19, 3) := by decide +kernel
theorem dX3_init_25 : decode cX3_init 25 = .ok (.aload_n 0, 1) := by decide +kernel
theorem dX3_init_26 : decode cX3_init 26 = .ok (.new 22, 3) := by decide +kernel
theorem dX3_init_29 : decode cX3_init 29 = .ok (.dup, 1) := by decide +kernel
theorem dX3_init_30 : decode cX3_init 30 = .ok (.invokespecial 24, 3) := by decide +kernel
theorem dX3_init_33 : decode cX3_init 33 = .ok (.putfield 25, 3) := by decide +kernel
theorem dX3_init_36 : decode cX3_init 36 = .ok (.aload_n 0, 1) := by decide +kernel
theorem dX3_init_37 : decode cX3_init 37 = .ok (.new 22, 3) := by decide +kernel
theorem dX3_init_40 : decode cX3_init 40 = .ok (.dup, 1) := by decide +kernel
theorem dX3_init_41 : decode cX3_init 41 = .ok (.invokespecial 24, 3) := by decide +kernel
theorem dX3_init_44 : decode cX3_init 44 = .ok (.putfield 29, 3) := by decide +kernel
theorem dX3_init_47 : decode cX3_init 47 = .ok (.return_, 1) := by decide +kernel
theorem dX3_add_0 : decode cX3_add 0 = .ok (.ldc2_w 32, 3) := by decide +kernel
theorem dX3_add_3 : decode cX3_add 3 = .ok (.bipush 31, 2) := by decide +kernel
theorem dX3_add_5 : decode cX3_add 5 = .ok (.iload_n 2, 1) := by decide +kernel
theorem dX3_add_6 : decode cX3_add 6 = .ok (.isub, 1) := by decide +kernel
theorem dX3_add_7 : decode cX3_add 7 = .ok (.lushr, 1) := by decide +kernel
theorem dX3_add_8 : decode cX3_add 8 = .ok (.lstore_n 3, 1) := by decide +kernel
theorem dX3_add_9 : decode cX3_add 9 = .ok (.ldc2_w 32, 3) := by decide +kernel
theorem dX3_add_12 : decode cX3_add 12 = .ok (.iload_n 1, 1) := by decide +kernel
theorem dX3_add_13 : decode cX3_add 13 = .ok (.bipush (-32), 2) := by decide +kernel
theorem dX3_add_15 : decode cX3_add 15 = .ok (.isub, 1) := by decide +kernel
theorem dX3_add_16 : decode cX3_add 16 = .ok (.lshl, 1) := by decide +kernel
theorem dX3_add_17 : decode cX3_add 17 = .ok (.lstore 5, 2) := by decide +kernel
theorem dX3_add_19 : decode cX3_add 19 = .ok (.aload_n 0, 1) := by decide +kernel
theorem dX3_add_20 : decode cX3_add 20 = .ok (.getfield 15, 3) := by decide +kernel
theorem dX3_add_23 : decode cX3_add 23 = .ok (.aload_n 0, 1) := by decide +kernel
theorem dX3_add_24 : decode cX3_add 24 = .ok (.getfield 9, 3) := by decide +kernel
theorem dX3_add_27 : decode cX3_add 27 = .ok (.lload_n 3, 1) := by decide +kernel
theorem dX3_add_28 : decode cX3_add 28 = .ok (.lload 5, 2) := by decide +kernel
theorem dX3_add_30 : decode cX3_add 30 = .ok (.land, 1) := by decide +kernel
theorem dX3_add_31 : decode cX3_add 31 = .ok (.lastore, 1) := by decide +kernel
theorem dX3_add_32 : decode cX3_add 32 = .ok (.aload_n 0, 1) := by decide +kernel
theorem dX3_add_33 : decode cX3_add 33 = .ok (.getfield 25, 3) := by decide +kernel
theorem dX3_add_36 : decode cX3_add 36 = .ok (.aload_n 0, 1) := by decide +kernel
theorem dX3_add_37 : decode cX3_add 37 = .ok (.getfield 9, 3) := by decide +kernel
theorem dX3_add_40 : decode cX3_add 40 = .ok (.aload_n 0, 1) := by decide +kernel
theorem dX3_add_41 : decode cX3_add 41 = .ok (.getfield 15, 3) := by decide +kernel
theorem dX3_add_44 : decode cX3_add 44 = .ok (.aload_n 0, 1) := by decide +kernel
theorem dX3_add_45 : decode cX3_add 45 = .ok (.getfield 9, 3) := by decide +kernel
theorem dX3_add_48 : decode cX3_add 48 = .ok (.laload, 1) := by decide +kernel
theorem dX3_add_49 : decode cX3_add 49 = .ok (.invokevirtual 34, 3) := by decide +kernel
theorem dX3_add_52 : decode cX3_add 52 = .ok (.aload_n 0, 1) := by decide +kernel
theorem dX3_add_53 : decode cX3_add 53 = .ok (.dup, 1) := by decide +kernel
theorem dX3_add_54 : decode cX3_add 54 = .ok (.getfield 9, 3) := by decide +kernel
theorem dX3_add_57 : decode cX3_add 57 = .ok (.iconst 1, 1) := by decide +kernel
theorem dX3_add_58 : decode cX3_add 58 = .ok (.iadd, 1) := by decide +kernel
theorem dX3_add_59 : decode cX3_add 59 = .ok (.putfield 9, 3) := by decide +kernel
theorem dX3_add_62 : decode cX3_add 62 = .ok (.return_, 1) := by decide +kernel
theorem dX3_leaveOut_0 : decode cX3_leaveOut 0 = .ok (.aload_n 0, 1) := by decide +kernel
theorem dX3_leaveOut_1 : decode cX3_leaveOut 1 = .ok (.getfield 15, 3) := by decide +kernel
theorem dX3_leaveOut_4 : decode cX3_leaveOut 4 = .ok (.iload_n 1, 1) := by decide +kernel
theorem dX3_leaveOut_5 : decode cX3_leaveOut 5 = .ok (.dup2, 1) := by decide +kernel
theorem dX3_leaveOut_6 : decode cX3_leaveOut 6 = .ok (.laload, 1) := by decide +kernel
theorem dX3_leaveOut_7 : decode cX3_leaveOut 7 = .ok (.iload_n 2, 1) := by decide +kernel
theorem dX3_leaveOut_8 : decode cX3_leaveOut 8 = .ok (.invokestatic 38, 3) := by decide +kernel
theorem dX3_leaveOut_11 : decode cX3_leaveOut 11 = .ok (.ldc2_w 32, 3) := by decide +kernel
theorem dX3_leaveOut_14 : decode cX3_leaveOut 14 = .ok (.lxor, 1) := by decide +kernel
theorem dX3_leaveOut_15 : decode cX3_leaveOut 15 = .ok (.land, 1) := by decide +kernel
theorem dX3_leaveOut_16 : decode cX3_leaveOut 16 = .ok (.lastore, 1) := by decide +kernel
theorem dX3_leaveOut_17 : decode cX3_leaveOut 17 = .ok (.aload_n 0, 1) := by decide +kernel
theorem dX3_leaveOut_18 : decode cX3_leaveOut 18 = .ok (.getfield 25, 3) := by decide +kernel
theorem dX3_leaveOut_21 : decode cX3_leaveOut 21 = .ok (.iload_n 1, 1) := by decide +kernel
theorem dX3_leaveOut_22 : decode cX3_leaveOut 22 = .ok (.aload_n 0, 1) := by decide +kernel
theorem dX3_leaveOut_23 : decode cX3_leaveOut 23 = .ok (.getfield 15, 3) := by decide +kernel
theorem dX3_leaveOut_26 : decode cX3_leaveOut 26 = .ok (.iload_n 1, 1) := by decide +kernel
theorem dX3_leaveOut_27 : decode cX3_leaveOut 27 = .ok (.laload, 1) := by decide +kernel
theorem dX3_leaveOut_28 : decode cX3_leaveOut 28 = .ok (.invokevirtual 34, 3) := by decide +kernel
theorem dX3_leaveOut_31 : decode cX3_leaveOut 31 = .ok (.return_, 1) := by decide +kernel
theorem dX3_takeOut_0 : decode cX3_takeOut 0 = .ok (.aload_n 0, 1) := by decide +kernel
theorem dX3_takeOut_1 : decode cX3_takeOut 1 = .ok (.getfield 19, 3) := by decide +kernel
theorem dX3_takeOut_4 : decode cX3_takeOut 4 = .ok (.iload_n 1, 1) := by decide +kernel
theorem dX3_takeOut_5 : decode cX3_takeOut 5 = .ok (.dup2, 1) := by decide +kernel
theorem dX3_takeOut_6 : decode cX3_takeOut 6 = .ok (.laload, 1) := by decide +kernel
theorem dX3_takeOut_7 : decode cX3_takeOut 7 = .ok (.iload_n 2, 1) := by decide +kernel
theorem dX3_takeOut_8 : decode cX3_takeOut 8 = .ok (.invokestatic 38, 3) := by decide +kernel
theorem dX3_takeOut_11 : decode cX3_takeOut 11 = .ok (.ldc2_w 32, 3) := by decide +kernel
theorem dX3_takeOut_14 : decode cX3_takeOut 14 = .ok (.lxor, 1) := by decide +kernel
theorem dX3_takeOut_15 : decode cX3_takeOut 15 = .ok (.land, 1) := by decide +kernel
theorem dX3_takeOut_16 : decode cX3_takeOut 16 = .ok (.lastore, 1) := by decide +kernel
theorem dX3_takeOut_17 : decode cX3_takeOut 17 = .ok (.aload_n 0, 1) := by decide +kernel
theorem dX3_takeOut_18 : decode cX3_takeOut 18 = .ok (.getfield 29, 3) := by decide +kernel
theorem dX3_takeOut_21 : decode cX3_takeOut 21 = .ok (.iload_n 1, 1) := by decide +kernel
theorem dX3_takeOut_22 : decode cX3_takeOut 22 = .ok (.aload_n 0, 1) := by decide +kernel
theorem dX3_takeOut_23 : decode cX3_takeOut 23 = .ok (.getfield 19, 3) := by decide +kernel
theorem dX3_takeOut_26 : decode cX3_takeOut 26 = .ok (.iload_n 1, 1) := by decide +kernel
theorem dX3_takeOut_27 : decode cX3_takeOut 27 = .ok (.laload, 1) := by decide +kernel
theorem dX3_takeOut_28 : decode cX3_takeOut 28 = .ok (.invokevirtual 34, 3) := by decide +kernel
theorem dX3_takeOut_31 : decode cX3_takeOut 31 = .ok (.return_, 1) := by decide +kernel
theorem dX3_restore_0 : decode cX3_restore 0 = .ok (.aload_n 0, 1) := by decide +kernel
theorem dX3_restore_1 : decode cX3_restore 1 = .ok (.getfield 15, 3) := by decide +kernel
theorem dX3_restore_4 : decode cX3_restore 4 = .ok (.iconst 0, 1) := by decide +kernel
theorem dX3_restore_5 : decode cX3_restore 5 = .ok (.aload_n 0, 1) := by decide +kernel
theorem dX3_restore_6 : decode cX3_restore 6 = .ok (.getfield 19, 3) := by decide +kernel
theorem dX3_restore_9 : decode cX3_restore 9 = .ok (.iconst 0, 1) := by decide +kernel
theorem dX3_restore_10 : decode cX3_restore 10 = .ok (.bipush 8, 2) := by decide +kernel
theorem dX3_restore_12 : decode cX3_restore 12 = .ok (.invokestatic 42, 3) := by decide +kernel
theorem dX3_restore_15 : decode cX3_restore 15 = .ok (.aload_n 0, 1) := by decide +kernel
theorem dX3_restore_16 : decode cX3_restore 16 = .ok (.getfield 29, 3) := by decide +kernel
theorem dX3_restore_19 : decode cX3_restore 19 = .ok (.aload_n 0, 1) := by decide +kernel
theorem dX3_restore_20 : decode cX3_restore 20 = .ok (.getfield 25, 3) := by decide +kernel
theorem dX3_restore_23 : decode cX3_restore 23 = .ok (.invokevirtual 48, 3) := by decide +kernel
theorem dX3_restore_26 : decode cX3_restore 26 = .ok (.return_, 1) := by decide +kernel
theorem dX3_choices_0 : decode cX3_choices 0 = .ok (.lconst 1, 1) := by decide +kernel
theorem dX3_choices_1 : decode cX3_choices 1 = .ok (.lstore_n 1, 1) := by decide +kernel
theorem dX3_choices_2 : decode cX3_choices 2 = .ok (.iconst 0, 1) := by decide +kernel
theorem dX3_choices_3 : decode cX3_choices 3 = .ok (.istore_n 3, 1) := by decide +kernel
theorem dX3_choices_4 : decode cX3_choices 4 = .ok (.iload_n 3, 1) := by decide +kernel
theorem dX3_choices_5 : decode cX3_choices 5 = .ok (.aload_n 0, 1) := by decide +kernel
theorem dX3_choices_6 : decode cX3_choices 6 = .ok (.getfield 9, 3) := by decide +kernel
theorem dX3_choices_9 : decode cX3_choices 9 = .ok (.if_icmp .ge 22, 3) := by decide +kernel
theorem dX3_choices_12 : decode cX3_choices 12 = .ok (.lload_n 1, 1) := by decide +kernel
theorem dX3_choices_13 : decode cX3_choices 13 = .ok (.aload_n 0, 1) := by decide +kernel
theorem dX3_choices_14 : decode cX3_choices 14 = .ok (.getfield 19, 3) := by decide +kernel
theorem dX3_choices_17 : decode cX3_choices 17 = .ok (.iload_n 3, 1) := by decide +kernel
theorem dX3_choices_18 : decode cX3_choices 18 = .ok (.laload, 1) := by decide +kernel
theorem dX3_choices_19 : decode cX3_choices 19 = .ok (.invokestatic 52, 3) := by decide +kernel
theorem dX3_choices_22 : decode cX3_choices 22 = .ok (.i2l, 1) := by decide +kernel
theorem dX3_choices_23 : decode cX3_choices 23 = .ok (.lmul, 1) := by decide +kernel
theorem dX3_choices_24 : decode cX3_choices 24 = .ok (.lstore_n 1, 1) := by decide +kernel
theorem dX3_choices_25 : decode cX3_choices 25 = .ok (.iinc 3 1, 3) := by decide +kernel
theorem dX3_choices_28 : decode cX3_choices 28 = .ok (.goto (-24), 3) := by decide +kernel
theorem dX3_choices_31 : decode cX3_choices 31 = .ok (.lload_n 1, 1) := by decide +kernel
theorem dX3_choices_32 : decode cX3_choices 32 = .ok (.lreturn, 1) := by decide +kernel
theorem dX4_init_0 : decode cX4_init 0 = .ok (.aload_n 0, 1) := by decide +kernel
theorem dX4_init_1 : decode cX4_init 1 = .ok (.invokespecial 3, 3) := by decide +kernel
theorem dX4_init_4 : decode cX4_init 4 = .ok (.aload_n 0, 1) := by decide +kernel
theorem dX4_init_5 : decode cX4_init 5 = .ok (.sipush (-1000), 3) := by decide +kernel
theorem dX4_init_8 : decode cX4_init 8 = .ok (.putfield 9, 3) := by decide +kernel
theorem dX4_init_11 : decode cX4_init 11 = .ok (.aload_n 0, 1) := by decide +kernel
theorem dX4_init_12 : decode cX4_init 12 = .ok (.iconst 0, 1) := by decide +kernel
theorem dX4_init_13 : decode cX4_init 13 = .ok (.putfield 15, 3) := by decide +kernel
theorem dX4_init_16 : decode cX4_init 16 = .ok (.aload_n 0, 1) := by decide +kernel
theorem dX4_init_17 : decode cX4_init 17 = .ok (.new 18, 3) := by decide +kernel
theorem dX4_init_20 : decode cX4_init 20 = .ok (.dup, 1) := by decide +kernel
theorem dX4_init_21 : decode cX4_init 21 = .ok (.invokespecial 20, 3) := by decide +kernel
theorem dX4_init_24 : decode cX4_init 24 = .ok (.putfield 21, 3) := by decide +kernel
theorem dX4_init_27 : decode cX4_init 27 = .ok (.aload_n 0, 1) := by decide +kernel
theorem dX4_init_28 : decode cX4_init 28 = .ok (.aload_n 1, 1) := by decide +kernel
theorem dX4_init_29 : decode cX4_init 29 = .ok (.putfield 25, 3) := by decide +kernel
theorem dX4_init_32 : decode cX4_init 32 = .ok (.aload_n 0, 1) := by decide +kernel
theorem dX4_init_33 : decode cX4_init 33 = .ok (.aload_n 2, 1) := by decide +kernel
theorem dX4_init_34 : decode cX4_init 34 = .ok (.putfield 29, 3) := by decide +kernel
theorem dX4_init_37 : decode cX4_init 37 = .ok (.aload_n 0, 1) := by decide +kernel
theorem dX4_init_38 : decode cX4_init 38 = .ok (.aload_n 3, 1) := by decide +kernel
theorem dX4_init_39 : decode cX4_init 39 = .ok (.putfield 33, 3) := by decide +kernel
theorem dX4_init_42 : decode cX4_init 42 = .ok (.return_, 1) := by decide +kernel
theorem dX4_forget_0 : decode cX4_forget 0 = .ok (.aload_n 0, 1) := by decide +kernel
theorem dX4_forget_1 : decode cX4_forget 1 = .ok (.sipush (-1000), 3) := by decide +kernel
theorem dX4_forget_4 : decode cX4_forget 4 = .ok (.putfield 9, 3) := by decide +kernel
theorem dX4_forget_7 : decode cX4_forget 7 = .ok (.aload_n 0, 1) := by decide +kernel
theorem dX4_forget_8 : decode cX4_forget 8 = .ok (.iconst 0, 1) := by decide +kernel
theorem dX4_forget_9 : decode cX4_forget 9 = .ok (.putfield 15, 3) := by decide +kernel
theorem dX4_forget_12 : decode cX4_forget 12 = .ok (.return_, 1) := by decide +kernel
theorem dX4_doOne_0 : decode cX4_doOne 0 = .ok (.aload_n 0, 1) := by decide +kernel
theorem dX4_doOne_1 : decode cX4_doOne 1 = .ok (.dup, 1) := by decide +kernel
theorem dX4_doOne_2 : decode cX4_doOne 2 = .ok (.getfield 15, 3) := by decide +kernel
theorem dX4_doOne_5 : decode cX4_doOne 5 = .ok (.iconst 1, 1) := by decide +kernel
theorem dX4_doOne_6 : decode cX4_doOne 6 = .ok (.iadd, 1) := by decide +kernel
theorem dX4_doOne_7 : decode cX4_doOne 7 = .ok (.putfield 15, 3) := by decide +kernel
theorem dX4_doOne_10 : decode cX4_doOne 10 = .ok (.iconst 0, 1) := by decide +kernel
theorem dX4_doOne_11 : decode cX4_doOne 11 = .ok (.istore_n 2, 1) := by decide +kernel
theorem dX4_doOne_12 : decode cX4_doOne 12 = .ok (.iload_n 2, 1) := by decide +kernel
theorem dX4_doOne_13 : decode cX4_doOne 13 = .ok (.aload_n 0, 1) := by decide +kernel
theorem dX4_doOne_14 : decode cX4_doOne 14 = .ok (.getfield 29, 3) := by decide +kernel
theorem dX4_doOne_17 : decode cX4_doOne 17 = .ok (.getfield 37, 3) := by decide +kernel
theorem dX4_doOne_20 : decode cX4_doOne 20 = .ok (.if_icmp .ge 85, 3) := by decide +kernel
theorem dX4_doOne_23 : decode cX4_doOne 23 = .ok (.iload_n 1, 1) := by decide +kernel
theorem dX4_doOne_24 : decode cX4_doOne 24 = .ok (.ifCond .eq 17, 3) := by decide +kernel
theorem dX4_doOne_27 : decode cX4_doOne 27 = .ok (.aload_n 0, 1) := by decide +kernel
theorem dX4_doOne_28 : decode cX4_doOne 28 = .ok (.getfield 29, 3) := by decide +kernel
theorem dX4_doOne_31 : decode cX4_doOne 31 = .ok (.getfield 37, 3) := by decide +kernel
theorem dX4_doOne_34 : decode cX4_doOne 34 = .ok (.iconst 1, 1) := by decide +kernel
theorem dX4_doOne_35 : decode cX4_doOne 35 = .ok (.isub, 1) := by decide +kernel
theorem dX4_doOne_36 : decode cX4_doOne 36 = .ok (.iload_n 2, 1) := by decide +kernel
theorem dX4_doOne_37 : decode cX4_doOne 37 = .ok (.isub, 1) := by decide +kernel
theorem dX4_doOne_38 : decode cX4_doOne 38 = .ok (.goto 4, 3) := by decide +kernel
theorem dX4_doOne_41 : decode cX4_doOne 41 = .ok (.iload_n 2, 1) := by decide +kernel
theorem dX4_doOne_42 : decode cX4_doOne 42 = .ok (.istore_n 3, 1) := by decide +kernel
theorem dX4_doOne_43 : decode cX4_doOne 43 = .ok (.iconst 0, 1) := by decide +kernel
theorem dX4_doOne_44 : decode cX4_doOne 44 = .ok (.istore 4, 2) := by decide +kernel
theorem dX4_doOne_46 : decode cX4_doOne 46 = .ok (.iload 4, 2) := by decide +kernel
theorem dX4_doOne_48 : decode cX4_doOne 48 = .ok (.aload_n 0, 1) := by decide +kernel
theorem dX4_doOne_49 : decode cX4_doOne 49 = .ok (.getfield 25, 3) := by decide +kernel
theorem dX4_doOne_52 : decode cX4_doOne 52 = .ok (.getfield 42, 3) := by decide +kernel
theorem dX4_doOne_55 : decode cX4_doOne 55 = .ok (.if_icmp .ge 44, 3) := by decide +kernel
theorem dX4_doOne_58 : decode cX4_doOne 58 = .ok (.aload_n 0, 1) := by decide +kernel
theorem dX4_doOne_59 : decode cX4_doOne 59 = .ok (.getfield 29, 3) := by decide +kernel
theorem dX4_doOne_62 : decode cX4_doOne 62 = .ok (.getfield 45, 3) := by decide +kernel
theorem dX4_doOne_65 : decode cX4_doOne 65 = .ok (.iload_n 3, 1) := by decide +kernel
theorem dX4_doOne_66 : decode cX4_doOne 66 = .ok (.aaload, 1) := by decide +kernel
theorem dX4_doOne_67 : decode cX4_doOne 67 = .ok (.iload 4, 2) := by decide +kernel
theorem dX4_doOne_69 : decode cX4_doOne 69 = .ok (.invokevirtual 49, 3) := by decide +kernel
theorem dX4_doOne_72 : decode cX4_doOne 72 = .ok (.ifCond .eq 10, 3) := by decide +kernel
theorem dX4_doOne_75 : decode cX4_doOne 75 = .ok (.aload_n 0, 1) := by decide +kernel
theorem dX4_doOne_76 : decode cX4_doOne 76 = .ok (.iload_n 3, 1) := by decide +kernel
theorem dX4_doOne_77 : decode cX4_doOne 77 = .ok (.iload 4, 2) := by decide +kernel
theorem dX4_doOne_79 : decode cX4_doOne 79 = .ok (.invokevirtual 55, 3) := by decide +kernel
theorem dX4_doOne_82 : decode cX4_doOne 82 = .ok (.aload_n 0, 1) := by decide +kernel
theorem dX4_doOne_83 : decode cX4_doOne 83 = .ok (.getfield 9, 3) := by decide +kernel
theorem dX4_doOne_86 : decode cX4_doOne 86 = .ok (.sipush (-1000), 3) := by decide +kernel
theorem dX4_doOne_89 : decode cX4_doOne 89 = .ok (.if_icmp .eq 4, 3) := by decide +kernel
theorem dX4_doOne_92 : decode cX4_doOne 92 = .ok (.return_, 1) := by decide +kernel
theorem dX4_doOne_93 : decode cX4_doOne 93 = .ok (.iinc 4 1, 3) := by decide +kernel
theorem dX4_doOne_96 : decode cX4_doOne 96 = .ok (.goto (-50), 3) := by decide +kernel
theorem dX4_doOne_99 : decode cX4_doOne 99 = .ok (.iinc 2 1, 3) := by decide +kernel
theorem dX4_doOne_102 : decode cX4_doOne 102 = .ok (.goto (-90), 3) := by decide +kernel
theorem dX4_doOne_105 : decode cX4_doOne 105 = .ok (.return_, 1) := by decide +kernel
