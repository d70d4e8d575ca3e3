theorem dX4_sift_0 : decode cX4_sift 0 = .ok (.aload_n 0, 1) := by decide +kernel
theorem dX4_sift_1 : decode cX4_sift 1 = .ok (.getfield 29, 3) := by decide +kernel
theorem dX4_sift_4 : decode cX4_sift 4 = .ok (.getfield 45, 3) := by decide +kernel
theorem dX4_sift_7 : decode cX4_sift 7 = .ok (.iload_n 1, 1) := by decide +kernel
theorem dX4_sift_8 : decode cX4_sift 8 = .ok (.aaload, 1) := by decide +kernel
theorem dX4_sift_9 : decode cX4_sift 9 = .ok (.astore_n 3, 1) := by decide +kernel
theorem dX4_sift_10 : decode cX4_sift 10 = .ok (.aload_n 0, 1) := by decide +kernel
theorem dX4_sift_11 : decode cX4_sift 11 = .ok (.getfield 25, 3) := by decide +kernel
theorem dX4_sift_14 : decode cX4_sift 14 = .ok (.getfield 59, 3) := by decide +kernel
theorem dX4_sift_17 : decode cX4_sift 17 = .ok (.astore 4, 2) := by decide +kernel
theorem dX4_sift_19 : decode cX4_sift 19 = .ok (.aload_n 3, 1) := by decide +kernel
theorem dX4_sift_20 : decode cX4_sift 20 = .ok (.iload_n 2, 1) := by decide +kernel
theorem dX4_sift_21 : decode cX4_sift 21 = .ok (.aload 4, 2) := by decide +kernel
theorem dX4_sift_23 : decode cX4_sift 23 = .ok (.iconst 0, 1) := by decide +kernel
theorem dX4_sift_24 : decode cX4_sift 24 = .ok (.invokevirtual 62, 3) := by decide +kernel
theorem dX4_sift_27 : decode cX4_sift 27 = .ok (.istore 5, 2) := by decide +kernel
theorem dX4_sift_29 : decode cX4_sift 29 = .ok (.aload_n 3, 1) := by decide +kernel
theorem dX4_sift_30 : decode cX4_sift 30 = .ok (.iload_n 2, 1) := by decide +kernel
theorem dX4_sift_31 : decode cX4_sift 31 = .ok (.aload 4, 2) := by decide +kernel
theorem dX4_sift_33 : decode cX4_sift 33 = .ok (.iconst 1, 1) := by decide +kernel
theorem dX4_sift_34 : decode cX4_sift 34 = .ok (.invokevirtual 62, 3) := by decide +kernel
theorem dX4_sift_37 : decode cX4_sift 37 = .ok (.istore 6, 2) := by decide +kernel
theorem dX4_sift_39 : decode cX4_sift 39 = .ok (.aload 4, 2) := by decide +kernel
theorem dX4_sift_41 : decode cX4_sift 41 = .ok (.getfield 66, 3) := by decide +kernel
theorem dX4_sift_44 : decode cX4_sift 44 = .ok (.iload_n 2, 1) := by decide +kernel
theorem dX4_sift_45 : decode cX4_sift 45 = .ok (.iaload, 1) := by decide +kernel
theorem dX4_sift_46 : decode cX4_sift 46 = .ok (.istore 7, 2) := by decide +kernel
theorem dX4_sift_48 : decode cX4_sift 48 = .ok (.aload 4, 2) := by decide +kernel
theorem dX4_sift_50 : decode cX4_sift 50 = .ok (.getfield 70, 3) := by decide +kernel
theorem dX4_sift_53 : decode cX4_sift 53 = .ok (.iload_n 2, 1) := by decide +kernel
theorem dX4_sift_54 : decode cX4_sift 54 = .ok (.iaload, 1) := by decide +kernel
theorem dX4_sift_55 : decode cX4_sift 55 = .ok (.istore 8, 2) := by decide +kernel
theorem dX4_sift_57 : decode cX4_sift 57 = .ok (.iload 8, 2) := by decide +kernel
theorem dX4_sift_59 : decode cX4_sift 59 = .ok (.iload 7, 2) := by decide +kernel
theorem dX4_sift_61 : decode cX4_sift 61 = .ok (.if_icmp .gt 75, 3) := by decide +kernel
theorem dX4_sift_64 : decode cX4_sift 64 = .ok (.aload_n 0, 1) := by decide +kernel
theorem dX4_sift_65 : decode cX4_sift 65 = .ok (.getfield 25, 3) := by decide +kernel
theorem dX4_sift_68 : decode cX4_sift 68 = .ok (.getfield 73, 3) := by decide +kernel
theorem dX4_sift_71 : decode cX4_sift 71 = .ok (.iload_n 2, 1) := by decide +kernel
theorem dX4_sift_72 : decode cX4_sift 72 = .ok (.laload, 1) := by decide +kernel
theorem dX4_sift_73 : decode cX4_sift 73 = .ok (.iload 8, 2) := by decide +kernel
theorem dX4_sift_75 : decode cX4_sift 75 = .ok (.invokestatic 77, 3) := by decide +kernel
theorem dX4_sift_78 : decode cX4_sift 78 = .ok (.ifCond .eq 52, 3) := by decide +kernel
theorem dX4_sift_81 : decode cX4_sift 81 = .ok (.aload_n 3, 1) := by decide +kernel
theorem dX4_sift_82 : decode cX4_sift 82 = .ok (.iload_n 2, 1) := by decide +kernel
theorem dX4_sift_83 : decode cX4_sift 83 = .ok (.iload 8, 2) := by decide +kernel
theorem dX4_sift_85 : decode cX4_sift 85 = .ok (.aload 4, 2) := by decide +kernel
theorem dX4_sift_87 : decode cX4_sift 87 = .ok (.iload 5, 2) := by decide +kernel
theorem dX4_sift_89 : decode cX4_sift 89 = .ok (.iload 6, 2) := by decide +kernel
theorem dX4_sift_91 : decode cX4_sift 91 = .ok (.invokevirtual 81, 3) := by decide +kernel
theorem dX4_sift_94 : decode cX4_sift 94 = .ok (.ifCond .ne 36, 3) := by decide +kernel
theorem dX4_sift_97 : decode cX4_sift 97 = .ok (.aload_n 0, 1) := by decide +kernel
theorem dX4_sift_98 : decode cX4_sift 98 = .ok (.getfield 33, 3) := by decide +kernel
theorem dX4_sift_101 : decode cX4_sift 101 = .ok (.iload_n 1, 1) := by decide +kernel
theorem dX4_sift_102 : decode cX4_sift 102 = .ok (.iload_n 2, 1) := by decide +kernel
theorem dX4_sift_103 : decode cX4_sift 103 = .ok (.iload 8, 2) := by decide +kernel
theorem dX4_sift_105 : decode cX4_sift 105 = .ok (.aload_n 0, 1) := by decide +kernel
theorem dX4_sift_106 : decode cX4_sift 106 = .ok (.getfield 15, 3) := by decide +kernel
theorem dX4_sift_109 : decode cX4_sift 109 = .ok (.aload_n 0, 1) := by decide +kernel
theorem dX4_sift_110 : decode cX4_sift 110 = .ok (.aload_n 3, 1) := by decide +kernel
theorem dX4_sift_111 : decode cX4_sift 111 = .ok (.iload_n 2, 1) := by decide +kernel
theorem dX4_sift_112 : decode cX4_sift 112 = .ok (.iload 8, 2) := by decide +kernel
theorem dX4_sift_114 : decode cX4_sift 114 = .ok (.invokevirtual 85, 3) := by decide +kernel
theorem dX4_sift_117 : decode cX4_sift 117 = .ok (.invokevirtual 89, 3) := by decide +kernel
theorem dX4_sift_120 : decode cX4_sift 120 = .ok (.aload_n 0, 1) := by decide +kernel
theorem dX4_sift_121 : decode cX4_sift 121 = .ok (.getfield 25, 3) := by decide +kernel
theorem dX4_sift_124 : decode cX4_sift 124 = .ok (.iload_n 2, 1) := by decide +kernel
theorem dX4_sift_125 : decode cX4_sift 125 = .ok (.iload 8, 2) := by decide +kernel
theorem dX4_sift_127 : decode cX4_sift 127 = .ok (.invokevirtual 95, 3) := by decide +kernel
theorem dX4_sift_130 : decode cX4_sift 130 = .ok (.iinc 8 1, 3) := by decide +kernel
theorem dX4_sift_133 : decode cX4_sift 133 = .ok (.goto (-76), 3) := by decide +kernel
theorem dX4_sift_136 : decode cX4_sift 136 = .ok (.aload_n 0, 1) := by decide +kernel
theorem dX4_sift_137 : decode cX4_sift 137 = .ok (.getfield 25, 3) := by decide +kernel
theorem dX4_sift_140 : decode cX4_sift 140 = .ok (.getfield 73, 3) := by decide +kernel
theorem dX4_sift_143 : decode cX4_sift 143 = .ok (.iload_n 2, 1) := by decide +kernel
theorem dX4_sift_144 : decode cX4_sift 144 = .ok (.laload, 1) := by decide +kernel
theorem dX4_sift_145 : decode cX4_sift 145 = .ok (.lconst 0, 1) := by decide +kernel
theorem dX4_sift_146 : decode cX4_sift 146 = .ok (.lcmp, 1) := by decide +kernel
theorem dX4_sift_147 : decode cX4_sift 147 = .ok (.ifCond .ne 8, 3) := by decide +kernel
theorem dX4_sift_150 : decode cX4_sift 150 = .ok (.aload_n 0, 1) := by decide +kernel
theorem dX4_sift_151 : decode cX4_sift 151 = .ok (.iload_n 1, 1) := by decide +kernel
theorem dX4_sift_152 : decode cX4_sift 152 = .ok (.putfield 9, 3) := by decide +kernel
theorem dX4_sift_155 : decode cX4_sift 155 = .ok (.return_, 1) := by decide +kernel
theorem dX4_findReason_0 : decode cX4_findReason 0 = .ok (.iconst 0, 1) := by decide +kernel
theorem dX4_findReason_1 : decode cX4_findReason 1 = .ok (.istore 4, 2) := by decide +kernel
theorem dX4_findReason_3 : decode cX4_findReason 3 = .ok (.aload_n 0, 1) := by decide +kernel
theorem dX4_findReason_4 : decode cX4_findReason 4 = .ok (.getfield 21, 3) := by decide +kernel
theorem dX4_findReason_7 : decode cX4_findReason 7 = .ok (.aload_n 0, 1) := by decide +kernel
theorem dX4_findReason_8 : decode cX4_findReason 8 = .ok (.getfield 25, 3) := by decide +kernel
theorem dX4_findReason_11 : decode cX4_findReason 11 = .ok (.getfield 59, 3) := by decide +kernel
theorem dX4_findReason_14 : decode cX4_findReason 14 = .ok (.invokevirtual 98, 3) := by decide +kernel
theorem dX4_findReason_17 : decode cX4_findReason 17 = .ok (.iconst 2, 1) := by decide +kernel
theorem dX4_findReason_18 : decode cX4_findReason 18 = .ok (.aload_n 0, 1) := by decide +kernel
theorem dX4_findReason_19 : decode cX4_findReason 19 = .ok (.getfield 25, 3) := by decide +kernel
theorem dX4_findReason_22 : decode cX4_findReason 22 = .ok (.getfield 42, 3) := by decide +kernel
theorem dX4_findReason_25 : decode cX4_findReason 25 = .ok (.imul, 1) := by decide +kernel
theorem dX4_findReason_26 : decode cX4_findReason 26 = .ok (.iconst 1, 1) := by decide +kernel
theorem dX4_findReason_27 : decode cX4_findReason 27 = .ok (.isub, 1) := by decide +kernel
theorem dX4_findReason_28 : decode cX4_findReason 28 = .ok (.istore 5, 2) := by decide +kernel
theorem dX4_findReason_30 : decode cX4_findReason 30 = .ok (.iload 5, 2) := by decide +kernel
theorem dX4_findReason_32 : decode cX4_findReason 32 = .ok (.ifCond .lt 115, 3) := by decide +kernel
theorem dX4_findReason_35 : decode cX4_findReason 35 = .ok (.iload 5, 2) := by decide +kernel
theorem dX4_findReason_37 : decode cX4_findReason 37 = .ok (.iconst 2, 1) := by decide +kernel
theorem dX4_findReason_38 : decode cX4_findReason 38 = .ok (.idiv, 1) := by decide +kernel
theorem dX4_findReason_39 : decode cX4_findReason 39 = .ok (.istore 6, 2) := by decide +kernel
theorem dX4_findReason_41 : decode cX4_findReason 41 = .ok (.iload 6, 2) := by decide +kernel
theorem dX4_findReason_43 : decode cX4_findReason 43 = .ok (.iload_n 2, 1) := by decide +kernel
theorem dX4_findReason_44 : decode cX4_findReason 44 = .ok (.if_icmp .eq 97, 3) := by decide +kernel
theorem dX4_findReason_47 : decode cX4_findReason 47 = .ok (.aload_n 1, 1) := by decide +kernel
theorem dX4_findReason_48 : decode cX4_findReason 48 = .ok (.iload 6, 2) := by decide +kernel
theorem dX4_findReason_50 : decode cX4_findReason 50 = .ok (.invokevirtual 49, 3) := by decide +kernel
theorem dX4_findReason_53 : decode cX4_findReason 53 = .ok (.ifCond .ne 6, 3) := by decide +kernel
theorem dX4_findReason_56 : decode cX4_findReason 56 = .ok (.goto 85, 3) := by decide +kernel
theorem dX4_findReason_59 : decode cX4_findReason 59 = .ok (.aload_n 0, 1) := by decide +kernel
theorem dX4_findReason_60 : decode cX4_findReason 60 = .ok (.getfield 21, 3) := by decide +kernel
theorem dX4_findReason_63 : decode cX4_findReason 63 = .ok (.iload 5, 2) := by decide +kernel
theorem dX4_findReason_65 : decode cX4_findReason 65 = .ok (.aload_n 0, 1) := by decide +kernel
theorem dX4_findReason_66 : decode cX4_findReason 66 = .ok (.getfield 25, 3) := by decide +kernel
theorem dX4_findReason_69 : decode cX4_findReason 69 = .ok (.getfield 102, 3) := by decide +kernel
theorem dX4_findReason_72 : decode cX4_findReason 72 = .ok (.invokevirtual 105, 3) := by decide +kernel
theorem dX4_findReason_75 : decode cX4_findReason 75 = .ok (.aload_n 1, 1) := by decide +kernel
theorem dX4_findReason_76 : decode cX4_findReason 76 = .ok (.iload_n 2, 1) := by decide +kernel
theorem dX4_findReason_77 : decode cX4_findReason 77 = .ok (.aload_n 0, 1) := by decide +kernel
theorem dX4_findReason_78 : decode cX4_findReason 78 = .ok (.getfield 21, 3) := by decide +kernel
theorem dX4_findReason_81 : decode cX4_findReason 81 = .ok (.iconst 0, 1) := by decide +kernel
theorem dX4_findReason_82 : decode cX4_findReason 82 = .ok (.invokevirtual 62, 3) := by decide +kernel
theorem dX4_findReason_85 : decode cX4_findReason 85 = .ok (.istore 7, 2) := by decide +kernel
theorem dX4_findReason_87 : decode cX4_findReason 87 = .ok (.aload_n 1, 1) := by decide +kernel
theorem dX4_findReason_88 : decode cX4_findReason 88 = .ok (.iload_n 2, 1) := by decide +kernel
theorem dX4_findReason_89 : decode cX4_findReason 89 = .ok (.aload_n 0, 1) := by decide +kernel
theorem dX4_findReason_90 : decode cX4_findReason 90 = .ok (.getfield 21, 3) := by decide +kernel
theorem dX4_findReason_93 : decode cX4_findReason 93 = .ok (.iconst 1, 1) := by decide +kernel
theorem dX4_findReason_94 : decode cX4_findReason 94 = .ok (.invokevirtual 62, 3) := by decide +kernel
theorem dX4_findReason_97 : decode cX4_findReason 97 = .ok (.istore 8, 2) := by decide +kernel
theorem dX4_findReason_99 : decode cX4_findReason 99 = .ok (.aload_n 1, 1) := by decide +kernel
theorem dX4_findReason_100 : decode cX4_findReason 100 = .ok (.iload_n 2, 1) := by decide +kernel
theorem dX4_findReason_101 : decode cX4_findReason 101 = .ok (.iload_n 3, 1) := by decide +kernel
theorem dX4_findReason_102 : decode cX4_findReason 102 = .ok (.aload_n 0, 1) := by decide +kernel
theorem dX4_findReason_103 : decode cX4_findReason 103 = .ok (.getfield 21, 3) := by decide +kernel
theorem dX4_findReason_106 : decode cX4_findReason 106 = .ok (.iload 7, 2) := by decide +kernel
theorem dX4_findReason_108 : decode cX4_findReason 108 = .ok (.iload 8, 2) := by decide +kernel
theorem dX4_findReason_110 : decode cX4_findReason 110 = .ok (.invokevirtual 81, 3) := by decide +kernel
theorem dX4_findReason_113 : decode cX4_findReason 113 = .ok (.ifCond .eq 28, 3) := by decide +kernel
theorem dX4_findReason_116 : decode cX4_findReason 116 = .ok (.aload_n 0, 1) := by decide +kernel
theorem dX4_findReason_117 : decode cX4_findReason 117 = .ok (.getfield 21, 3) := by decide +kernel
theorem dX4_findReason_120 : decode cX4_findReason 120 = .ok (.iload 5, 2) := by decide +kernel
theorem dX4_findReason_122 : decode cX4_findReason 122 = .ok (.aload_n 0, 1) := by decide +kernel
theorem dX4_findReason_123 : decode cX4_findReason 123 = .ok (.getfield 25, 3) := by decide +kernel
theorem dX4_findReason_126 : decode cX4_findReason 126 = .ok (.getfield 59, 3) := by decide +kernel
theorem dX4_findReason_129 : decode cX4_findReason 129 = .ok (.invokevirtual 105, 3) := by decide +kernel
theorem dX4_findReason_132 : decode cX4_findReason 132 = .ok (.iload 4, 2) := by decide +kernel
theorem dX4_findReason_134 : decode cX4_findReason 134 = .ok (.iconst 1, 1) := by decide +kernel
theorem dX4_findReason_135 : decode cX4_findReason 135 = .ok (.iload 5, 2) := by decide +kernel
theorem dX4_findReason_137 : decode cX4_findReason 137 = .ok (.ishl, 1) := by decide +kernel
theorem dX4_findReason_138 : decode cX4_findReason 138 = .ok (.ior, 1) := by decide +kernel
theorem dX4_findReason_139 : decode cX4_findReason 139 = .ok (.istore 4, 2) := by decide +kernel
theorem dX4_findReason_141 : decode cX4_findReason 141 = .ok (.iinc 5 (-1), 3) := by decide +kernel
theorem dX4_findReason_144 : decode cX4_findReason 144 = .ok (.goto (-114), 3) := by decide +kernel
theorem dX4_findReason_147 : decode cX4_findReason 147 = .ok (.iload 4, 2) := by decide +kernel
theorem dX4_findReason_149 : decode cX4_findReason 149 = .ok (.ireturn, 1) := by decide +kernel
theorem dX5_init_0 : decode cX5_init 0 = .ok (.aload_n 0, 1) := by decide +kernel
theorem dX5_init_1 : decode cX5_init 1 = .ok (.invokespecial 3, 3) := by decide +kernel
theorem dX5_init_4 : decode cX5_init 4 = .ok (.aload_n 0, 1) := by decide +kernel
theorem dX5_init_5 : decode cX5_init 5 = .ok (.bipush 8, 2) := by decide +kernel
theorem dX5_init_7 : decode cX5_init 7 = .ok (.newarray .int, 2) := by decide +kernel
theorem dX5_init_9 : decode cX5_init 9 = .ok (.putfield 9, 3) := by decide +kernel
theorem dX5_init_12 : decode cX5_init 12 = .ok (.aload_n 0, 1) := by decide +kernel
theorem dX5_init_13 : decode cX5_init 13 = .ok (.bipush 8, 2) := by decide +kernel
theorem dX5_init_15 : decode cX5_init 15 = .ok (.newarray .int, 2) := by decide +kernel
theorem dX5_init_17 : decode cX5_init 17 = .ok (.putfield 15, 3) := by decide +kernel
theorem dX5_init_20 : decode cX5_init 20 = .ok (.return_, 1) := by decide +kernel
theorem dX5_fit_0 : decode cX5_fit 0 = .ok (.lload_n 2, 1) := by decide +kernel
theorem dX5_fit_1 : decode cX5_fit 1 = .ok (.lconst 0, 1) := by decide +kernel
theorem dX5_fit_2 : decode cX5_fit 2 = .ok (.lcmp, 1) := by decide +kernel
theorem dX5_fit_3 : decode cX5_fit 3 = .ok (.ifCond .eq 23, 3) := by decide +kernel
theorem dX5_fit_6 : decode cX5_fit 6 = .ok (.aload_n 0, 1) := by decide +kernel
theorem dX5_fit_7 : decode cX5_fit 7 = .ok (.getfield 9, 3) := by decide +kernel
theorem dX5_fit_10 : decode cX5_fit 10 = .ok (.iload_n 1, 1) := by decide +kernel
theorem dX5_fit_11 : decode cX5_fit 11 = .ok (.lload_n 2, 1) := by decide +kernel
theorem dX5_fit_12 : decode cX5_fit 12 = .ok (.invokestatic 18, 3) := by decide +kernel
theorem dX5_fit_15 : decode cX5_fit 15 = .ok (.iastore, 1) := by decide +kernel
theorem dX5_fit_16 : decode cX5_fit 16 = .ok (.aload_n 0, 1) := by decide +kernel
theorem dX5_fit_17 : decode cX5_fit 17 = .ok (.getfield 15, 3) := by decide +kernel
theorem dX5_fit_20 : decode cX5_fit 20 = .ok (.iload_n 1, 1) := by decide +kernel
theorem dX5_fit_21 : decode cX5_fit 21 = .ok (.lload_n 2, 1) := by decide +kernel
theorem dX5_fit_22 : decode cX5_fit 22 = .ok (.invokestatic 22, 3) := by decide +kernel
theorem dX5_fit_25 : decode cX5_fit 25 = .ok (.iastore, 1) := by decide +kernel
theorem dX5_fit_26 : decode cX5_fit 26 = .ok (.return_, 1) := by decide +kernel
theorem dX5_copy_0 : decode cX5_copy 0 = .ok (.aload_n 1, 1) := by decide +kernel
theorem dX5_copy_1 : decode cX5_copy 1 = .ok (.getfield 9, 3) := by decide +kernel
theorem dX5_copy_4 : decode cX5_copy 4 = .ok (.iconst 0, 1) := by decide +kernel
theorem dX5_copy_5 : decode cX5_copy 5 = .ok (.aload_n 0, 1) := by decide +kernel
theorem dX5_copy_6 : decode cX5_copy 6 = .ok (.getfield 9, 3) := by decide +kernel
theorem dX5_copy_9 : decode cX5_copy 9 = .ok (.iconst 0, 1) := by decide +kernel
theorem dX5_copy_10 : decode cX5_copy 10 = .ok (.bipush 8, 2) := by decide +kernel
theorem dX5_copy_12 : decode cX5_copy 12 = .ok (.invokestatic 25, 3) := by decide +kernel
theorem dX5_copy_15 : decode cX5_copy 15 = .ok (.aload_n 1, 1) := by decide +kernel
theorem dX5_copy_16 : decode cX5_copy 16 = .ok (.getfield 15, 3) := by decide +kernel
theorem dX5_copy_19 : decode cX5_copy 19 = .ok (.iconst 0, 1) := by decide +kernel
theorem dX5_copy_20 : decode cX5_copy 20 = .ok (.aload_n 0, 1) := by decide +kernel
theorem dX5_copy_21 : decode cX5_copy 21 = .ok (.getfield 15, 3) := by decide +kernel
theorem dX5_copy_24 : decode cX5_copy 24 = .ok (.iconst 0, 1) := by decide +kernel
theorem dX5_copy_25 : decode cX5_copy 25 = .ok (.bipush 8, 2) := by decide +kernel
theorem dX5_copy_27 : decode cX5_copy 27 = .ok (.invokestatic 25, 3) := by decide +kernel
theorem dX5_copy_30 : decode cX5_copy 30 = .ok (.return_, 1) := by decide +kernel
theorem dX5_copyPart_0 : decode cX5_copyPart 0 = .ok (.iload_n 1, 1) := by decide +kernel
theorem dX5_copyPart_1 : decode cX5_copyPart 1 = .ok (.iconst 2, 1) := by decide +kernel
theorem dX5_copyPart_2 : decode cX5_copyPart 2 = .ok (.idiv, 1) := by decide +kernel
theorem dX5_copyPart_3 : decode cX5_copyPart 3 = .ok (.istore_n 3, 1) := by decide +kernel
theorem dX5_copyPart_4 : decode cX5_copyPart 4 = .ok (.iload_n 1, 1) := by decide +kernel
theorem dX5_copyPart_5 : decode cX5_copyPart 5 = .ok (.iconst 2, 1) := by decide +kernel
theorem dX5_copyPart_6 : decode cX5_copyPart 6 = .ok (.irem, 1) := by decide +kernel
theorem dX5_copyPart_7 : decode cX5_copyPart 7 = .ok (.iconst 1, 1) := by decide +kernel
theorem dX5_copyPart_8 : decode cX5_copyPart 8 = .ok (.if_icmp .ne 18, 3) := by decide +kernel
theorem dX5_copyPart_11 : decode cX5_copyPart 11 = .ok (.aload_n 0, 1) := by decide +kernel
theorem dX5_copyPart_12 : decode cX5_copyPart 12 = .ok (.getfield 15, 3) := by decide +kernel
theorem dX5_copyPart_15 : decode cX5_copyPart 15 = .ok (.iload_n 3, 1) := by decide +kernel
theorem dX5_copyPart_16 : decode cX5_copyPart 16 = .ok (.aload_n 2, 1) := by decide +kernel
theorem dX5_copyPart_17 : decode cX5_copyPart 17 = .ok (.getfield 15, 3) := by decide +kernel
theorem dX5_copyPart_20 : decode cX5_copyPart 20 = .ok (.iload_n 3, 1) := by decide +kernel
theorem dX5_copyPart_21 : decode cX5_copyPart 21 = .ok (.iaload, 1) := by decide +kernel
theorem dX5_copyPart_22 : decode cX5_copyPart 22 = .ok (.iastore, 1) := by decide +kernel
theorem dX5_copyPart_23 : decode cX5_copyPart 23 = .ok (.goto 15, 3) := by decide +kernel
theorem dX5_copyPart_26 : decode cX5_copyPart 26 = .ok (.aload_n 0, 1) := by decide +kernel
theorem dX5_copyPart_27 : decode cX5_copyPart 27 = .ok (.getfield 9, 3) := by decide +kernel
theorem dX5_copyPart_30 : decode cX5_copyPart 30 = .ok (.iload_n 3, 1) := by decide +kernel
theorem dX5_copyPart_31 : decode cX5_copyPart 31 = .ok (.aload_n 2, 1) := by decide +kernel
theorem dX5_copyPart_32 : decode cX5_copyPart 32 = .ok (.getfield 9, 3) := by decide +kernel
theorem dX5_copyPart_35 : decode cX5_copyPart 35 = .ok (.iload_n 3, 1) := by decide +kernel
theorem dX5_copyPart_36 : decode cX5_copyPart 36 = .ok (.iaload, 1) := by decide +kernel
theorem dX5_copyPart_37 : decode cX5_copyPart 37 = .ok (.iastore, 1) := by decide +kernel
theorem dX5_copyPart_38 : decode cX5_copyPart 38 = .ok (.return_, 1) := by decide +kernel
theorem dX5_covers_0 : decode cX5_covers 0 = .ok (.aload_n 0, 1) := by decide +kernel
theorem dX5_covers_1 : decode cX5_covers 1 = .ok (.getfield 9, 3) := by decide +kernel
theorem dX5_covers_4 : decode cX5_covers 4 = .ok (.iload_n 1, 1) := by decide +kernel
theorem dX5_covers_5 : decode cX5_covers 5 = .ok (.iaload, 1) := by decide +kernel
theorem dX5_covers_6 : decode cX5_covers 6 = .ok (.iload_n 2, 1) := by decide +kernel
theorem dX5_covers_7 : decode cX5_covers 7 = .ok (.if_icmp .gt 17, 3) := by decide +kernel
theorem dX5_covers_10 : decode cX5_covers 10 = .ok (.iload_n 2, 1) := by decide +kernel
theorem dX5_covers_11 : decode cX5_covers 11 = .ok (.aload_n 0, 1) := by decide +kernel
theorem dX5_covers_12 : decode cX5_covers 12 = .ok (.getfield 15, 3) := by decide +kernel
theorem dX5_covers_15 : decode cX5_covers 15 = .ok (.iload_n 1, 1) := by decide +kernel
theorem dX5_covers_16 : decode cX5_covers 16 = .ok (.iaload, 1) := by decide +kernel
theorem dX5_covers_17 : decode cX5_covers 17 = .ok (.if_icmp .gt 7, 3) := by decide +kernel
theorem dX5_covers_20 : decode cX5_covers 20 = .ok (.iconst 1, 1) := by decide +kernel
theorem dX5_covers_21 : decode cX5_covers 21 = .ok (.goto 4, 3) := by decide +kernel
theorem dX5_covers_24 : decode cX5_covers 24 = .ok (.iconst 0, 1) := by decide +kernel
theorem dX5_covers_25 : decode cX5_covers 25 = .ok (.ireturn, 1) := by decide +kernel
theorem dX5_isOnly_0 : decode cX5_isOnly 0 = .ok (.aload_n 0, 1) := by decide +kernel
theorem dX5_isOnly_1 : decode cX5_isOnly 1 = .ok (.getfield 9, 3) := by decide +kernel
theorem dX5_isOnly_4 : decode cX5_isOnly 4 = .ok (.iload_n 1, 1) := by decide +kernel
theorem dX5_isOnly_5 : decode cX5_isOnly 5 = .ok (.iaload, 1) := by decide +kernel
theorem dX5_isOnly_6 : decode cX5_isOnly 6 = .ok (.iload_n 2, 1) := by decide +kernel
theorem dX5_isOnly_7 : decode cX5_isOnly 7 = .ok (.if_icmp .ne 17, 3) := by decide +kernel
theorem dX5_isOnly_10 : decode cX5_isOnly 10 = .ok (.aload_n 0, 1) := by decide +kernel
theorem dX5_isOnly_11 : decode cX5_isOnly 11 = .ok (.getfield 15, 3) := by decide +kernel
theorem dX5_isOnly_14 : decode cX5_isOnly 14 = .ok (.iload_n 1, 1) := by decide +kernel
theorem dX5_isOnly_15 : decode cX5_isOnly 15 = .ok (.iaload, 1) := by decide +kernel
theorem dX5_isOnly_16 : decode cX5_isOnly 16 = .ok (.iload_n 2, 1) := by decide +kernel
theorem dX5_isOnly_17 : decode cX5_isOnly 17 = .ok (.if_icmp .ne 7, 3) := by decide +kernel
theorem dX5_isOnly_20 : decode cX5_isOnly 20 = .ok (.iconst 1, 1) := by decide +kernel
theorem dX5_isOnly_21 : decode cX5_isOnly 21 = .ok (.goto 4, 3) := by decide +kernel
theorem dX5_isOnly_24 : decode cX5_isOnly 24 = .ok (.iconst 0, 1) := by decide +kernel
theorem dX5_isOnly_25 : decode cX5_isOnly 25 = .ok (.ireturn, 1) := by decide +kernel
theorem dX5_meets_0 : decode cX5_meets 0 = .ok (.iload_n 2, 1) := by decide +kernel
theorem dX5_meets_1 : decode cX5_meets 1 = .ok (.iload_n 3, 1) := by decide +kernel
theorem dX5_meets_2 : decode cX5_meets 2 = .ok (.if_icmp .gt 27, 3) := by decide +kernel
theorem dX5_meets_5 : decode cX5_meets 5 = .ok (.iload_n 2, 1) := by decide +kernel
theorem dX5_meets_6 : decode cX5_meets 6 = .ok (.aload_n 0, 1) := by decide +kernel
theorem dX5_meets_7 : decode cX5_meets 7 = .ok (.getfield 15, 3) := by decide +kernel
theorem dX5_meets_10 : decode cX5_meets 10 = .ok (.iload_n 1, 1) := by decide +kernel
theorem dX5_meets_11 : decode cX5_meets 11 = .ok (.iaload, 1) := by decide +kernel
theorem dX5_meets_12 : decode cX5_meets 12 = .ok (.if_icmp .gt 17, 3) := by decide +kernel
theorem dX5_meets_15 : decode cX5_meets 15 = .ok (.aload_n 0, 1) := by decide +kernel
theorem dX5_meets_16 : decode cX5_meets 16 = .ok (.getfield 9, 3) := by decide +kernel
theorem dX5_meets_19 : decode cX5_meets 19 = .ok (.iload_n 1, 1) := by decide +kernel
theorem dX5_meets_20 : decode cX5_meets 20 = .ok (.iaload, 1) := by decide +kernel
theorem dX5_meets_21 : decode cX5_meets 21 = .ok (.iload_n 3, 1) := by decide +kernel
theorem dX5_meets_22 : decode cX5_meets 22 = .ok (.if_icmp .gt 7, 3) := by decide +kernel
theorem dX5_meets_25 : decode cX5_meets 25 = .ok (.iconst 1, 1) := by decide +kernel
theorem dX5_meets_26 : decode cX5_meets 26 = .ok (.goto 4, 3) := by decide +kernel
theorem dX5_meets_29 : decode cX5_meets 29 = .ok (.iconst 0, 1) := by decide +kernel
theorem dX5_meets_30 : decode cX5_meets 30 = .ok (.ireturn, 1) := by decide +kernel
theorem dX6_init_0 : decode cX6_init 0 = .ok (.aload_n 0, 1) := by decide +kernel
theorem dX6_init_1 : decode cX6_init 1 = .ok (.invokespecial 3, 3) := by decide +kernel
theorem dX6_init_4 : decode cX6_init 4 = .ok (.aload_n 0, 1) := by decide +kernel
theorem dX6_init_5 : decode cX6_init 5 = .ok (.iconst 0, 1) := by decide +kernel
theorem dX6_init_6 : decode cX6_init 6 = .ok (.putfield 9, 3) := by decide +kernel
theorem dX6_init_9 : decode cX6_init 9 = .ok (.aload_n 0, 1) := by decide +kernel
theorem dX6_init_10 : decode cX6_init 10 = .ok (.sipush 512, 3) := by decide +kernel
theorem dX6_init_13 : decode cX6_init 13 = .ok (.newarray .int, 2) := by decide +kernel
theorem dX6_init_15 : decode cX6_init 15 = .ok (.putfield 15, 3) := by decide +kernel
theorem dX6_init_18 : decode cX6_init 18 = .ok (.aload_n 0, 1) := by decide +kernel
theorem dX6_init_19 : decode cX6_init 19 = .ok (.sipush 512, 3) := by decide +kernel
theorem dX6_init_22 : decode cX6_init 22 = .ok (.newarray .int, 2) := by decide +kernel
theorem dX6_init_24 : decode cX6_init 24 = .ok (.putfield 19, 3) := by decide +kernel
theorem dX6_init_27 : decode cX6_init 27 = .ok (.aload_n 0, 1) := by decide +kernel
theorem dX6_init_28 : decode cX6_init 28 = .ok (.sipush 512, 3) := by decide +kernel
theorem dX6_init_31 : decode cX6_init 31 = .ok (.newarray .int, 2) := by decide +kernel
theorem dX6_init_33 : decode cX6_init 33 = .ok (.putfield 22, 3) := by decide +kernel
theorem dX6_init_36 : decode cX6_init 36 = .ok (.aload_n 0, 1) := by decide +kernel
theorem dX6_init_37 : decode cX6_init 37 = .ok (.sipush 512, 3) := by decide +kernel
theorem dX6_init_40 : decode cX6_init 40 = .ok (.newarray .int, 2) := by decide +kernel
theorem dX6_init_42 : decode cX6_init 42 = .ok (.putfield 25, 3) := by decide +kernel
theorem dX6_init_45 : decode cX6_init 45 = .ok (.aload_n 0, 1) := by decide +kernel
theorem dX6_init_46 : decode cX6_init 46 = .ok (.sipush 512, 3) := by decide +kernel
theorem dX6_init_49 : decode cX6_init 49 = .ok (.newarray .int, 2) := by decide +kernel
theorem dX6_init_51 : decode cX6_init 51 = .ok (.putfield 28, 3) := by decide +kernel
theorem dX6_init_54 : decode cX6_init 54 = .ok (.return_, 1) := by decide +kernel
theorem dX6_add_0 : decode cX6_add 0 = .ok (.aload_n 0, 1) := by decide +kernel
theorem dX6_add_1 : decode cX6_add 1 = .ok (.getfield 9, 3) := by decide +kernel
theorem dX6_add_4 : decode cX6_add 4 = .ok (.sipush 512, 3) := by decide +kernel
theorem dX6_add_7 : decode cX6_add 7 = .ok (.if_icmp .ge 65, 3) := by decide +kernel
theorem dX6_add_10 : decode cX6_add 10 = .ok (.aload_n 0, 1) := by decide +kernel
theorem dX6_add_11 : decode cX6_add 11 = .ok (.getfield 15, 3) := by decide +kernel
theorem dX6_add_14 : decode cX6_add 14 = .ok (.aload_n 0, 1) := by decide +kernel
theorem dX6_add_15 : decode cX6_add 15 = .ok (.getfield 9, 3) := by decide +kernel
theorem dX6_add_18 : decode cX6_add 18 = .ok (.iload_n 1, 1) := by decide +kernel
theorem dX6_add_19 : decode cX6_add 19 = .ok (.iastore, 1) := by decide +kernel
theorem dX6_add_20 : decode cX6_add 20 = .ok (.aload_n 0, 1) := by decide +kernel
theorem dX6_add_21 : decode cX6_add 21 = .ok (.getfield 19, 3) := by decide +kernel
theorem dX6_add_24 : decode cX6_add 24 = .ok (.aload_n 0, 1) := by decide +kernel
theorem dX6_add_25 : decode cX6_add 25 = .ok (.getfield 9, 3) := by decide +kernel
theorem dX6_add_28 : decode cX6_add 28 = .ok (.iload_n 2, 1) := by decide +kernel
theorem dX6_add_29 : decode cX6_add 29 = .ok (.iastore, 1) := by decide +kernel
theorem dX6_add_30 : decode cX6_add 30 = .ok (.aload_n 0, 1) := by decide +kernel
theorem dX6_add_31 : decode cX6_add 31 = .ok (.getfield 22, 3) := by decide +kernel
theorem dX6_add_34 : decode cX6_add 34 = .ok (.aload_n 0, 1) := by decide +kernel
theorem dX6_add_35 : decode cX6_add 35 = .ok (.getfield 9, 3) := by decide +kernel
theorem dX6_add_38 : decode cX6_add 38 = .ok (.iload_n 3, 1) := by decide +kernel
theorem dX6_add_39 : decode cX6_add 39 = .ok (.iastore, 1) := by decide +kernel
theorem dX6_add_40 : decode cX6_add 40 = .ok (.aload_n 0, 1) := by decide +kernel
theorem dX6_add_41 : decode cX6_add 41 = .ok (.getfield 25, 3) := by decide +kernel
theorem dX6_add_44 : decode cX6_add 44 = .ok (.aload_n 0, 1) := by decide +kernel
theorem dX6_add_45 : decode cX6_add 45 = .ok (.getfield 9, 3) := by decide +kernel
theorem dX6_add_48 : decode cX6_add 48 = .ok (.iload 4, 2) := by decide +kernel
theorem dX6_add_50 : decode cX6_add 50 = .ok (.iastore, 1) := by decide +kernel
theorem dX6_add_51 : decode cX6_add 51 = .ok (.aload_n 0, 1) := by decide +kernel
theorem dX6_add_52 : decode cX6_add 52 = .ok (.getfield 28, 3) := by decide +kernel
theorem dX6_add_55 : decode cX6_add 55 = .ok (.aload_n 0, 1) := by decide +kernel
theorem dX6_add_56 : decode cX6_add 56 = .ok (.getfield 9, 3) := by decide +kernel
theorem dX6_add_59 : decode cX6_add 59 = .ok (.iload 5, 2) := by decide +kernel
theorem dX6_add_61 : decode cX6_add 61 = .ok (.iastore, 1) := by decide +kernel
theorem dX6_add_62 : decode cX6_add 62 = .ok (.aload_n 0, 1) := by decide +kernel
theorem dX6_add_63 : decode cX6_add 63 = .ok (.dup, 1) := by decide +kernel
theorem dX6_add_64 : decode cX6_add 64 = .ok (.getfield 9, 3) := by decide +kernel
theorem dX6_add_67 : decode cX6_add 67 = .ok (.iconst 1, 1) := by decide +kernel
theorem dX6_add_68 : decode cX6_add 68 = .ok (.iadd, 1) := by decide +kernel
theorem dX6_add_69 : decode cX6_add 69 = .ok (.putfield 9, 3) := by decide +kernel
theorem dX6_add_72 : decode cX6_add 72 = .ok (.return_, 1) := by decide +kernel
theorem dX6_partAt_0 : decode cX6_partAt 0 = .ok (.iconst 0, 1) := by decide +kernel
theorem dX6_partAt_1 : decode cX6_partAt 1 = .ok (.istore_n 3, 1) := by decide +kernel
theorem dX6_partAt_2 : decode cX6_partAt 2 = .ok (.iconst 0, 1) := by decide +kernel
theorem dX6_partAt_3 : decode cX6_partAt 3 = .ok (.istore 4, 2) := by decide +kernel
theorem dX6_partAt_5 : decode cX6_partAt 5 = .ok (.iload 4, 2) := by decide +kernel
theorem dX6_partAt_7 : decode cX6_partAt 7 = .ok (.bipush 16, 2) := by decide +kernel
theorem dX6_partAt_9 : decode cX6_partAt 9 = .ok (.if_icmp .ge 35, 3) := by decide +kernel
theorem dX6_partAt_12 : decode cX6_partAt 12 = .ok (.aload_n 0, 1) := by decide +kernel
theorem dX6_partAt_13 : decode cX6_partAt 13 = .ok (.getfield 28, 3) := by decide +kernel
theorem dX6_partAt_16 : decode cX6_partAt 16 = .ok (.iload_n 1, 1) := by decide +kernel
theorem dX6_partAt_17 : decode cX6_partAt 17 = .ok (.iaload, 1) := by decide +kernel
theorem dX6_partAt_18 : decode cX6_partAt 18 = .ok (.iload 4, 2) := by decide +kernel
theorem dX6_partAt_20 : decode cX6_partAt 20 = .ok (.ishr, 1) := by decide +kernel
theorem dX6_partAt_21 : decode cX6_partAt 21 = .ok (.iconst 1, 1) := by decide +kernel
theorem dX6_partAt_22 : decode cX6_partAt 22 = .ok (.iand, 1) := by decide +kernel
theorem dX6_partAt_23 : decode cX6_partAt 23 = .ok (.iconst 1, 1) := by decide +kernel
theorem dX6_partAt_24 : decode cX6_partAt 24 = .ok (.if_icmp .ne 14, 3) := by decide +kernel
theorem dX6_partAt_27 : decode cX6_partAt 27 = .ok (.iload_n 3, 1) := by decide +kernel
theorem dX6_partAt_28 : decode cX6_partAt 28 = .ok (.iload_n 2, 1) := by decide +kernel
theorem dX6_partAt_29 : decode cX6_partAt 29 = .ok (.if_icmp .ne 6, 3) := by decide +kernel
theorem dX6_partAt_32 : decode cX6_partAt 32 = .ok (.iload 4, 2) := by decide +kernel
theorem dX6_partAt_34 : decode cX6_partAt 34 = .ok (.ireturn, 1) := by decide +kernel
theorem dX6_partAt_35 : decode cX6_partAt 35 = .ok (.iinc 3 1, 3) := by decide +kernel
theorem dX6_partAt_38 : decode cX6_partAt 38 = .ok (.iinc 4 1, 3) := by decide +kernel
theorem dX6_partAt_41 : decode cX6_partAt 41 = .ok (.goto (-36), 3) := by decide +kernel
theorem dX6_partAt_44 : decode cX6_partAt 44 = .ok (.sipush (-1001), 3) := by decide +kernel
theorem dX6_partAt_47 : decode cX6_partAt 47 = .ok (.ireturn, 1) := by decide +kernel
theorem dX6_without_0 : decode cX6_without 0 = .ok (.lload_n 1, 1) := by decide +kernel
theorem dX6_without_1 : decode cX6_without 1 = .ok (.lstore 5, 2) := by decide +kernel
theorem dX6_without_3 : decode cX6_without 3 = .ok (.iconst 0, 1) := by decide +kernel
theorem dX6_without_4 : decode cX6_without 4 = .ok (.istore 7, 2) := by decide +kernel
theorem dX6_without_6 : decode cX6_without 6 = .ok (.iload 7, 2) := by decide +kernel
theorem dX6_without_8 : decode cX6_without 8 = .ok (.iload 4, 2) := by decide +kernel
theorem dX6_without_10 : decode cX6_without 10 = .ok (.if_icmp .ge 39, 3) := by decide +kernel
theorem dX6_without_13 : decode cX6_without 13 = .ok (.aload_n 0, 1) := by decide +kernel
theorem dX6_without_14 : decode cX6_without 14 = .ok (.getfield 19, 3) := by decide +kernel
theorem dX6_without_17 : decode cX6_without 17 = .ok (.iload 7, 2) := by decide +kernel
theorem dX6_without_19 : decode cX6_without 19 = .ok (.iaload, 1) := by decide +kernel
theorem dX6_without_20 : decode cX6_without 20 = .ok (.iload_n 3, 1) := by decide +kernel
theorem dX6_without_21 : decode cX6_without 21 = .ok (.if_icmp .ne 22, 3) := by decide +kernel
theorem dX6_without_24 : decode cX6_without 24 = .ok (.lload 5, 2) := by decide +kernel
theorem dX6_without_26 : decode cX6_without 26 = .ok (.aload_n 0, 1) := by decide +kernel
theorem dX6_without_27 : decode cX6_without 27 = .ok (.getfield 22, 3) := by decide +kernel
theorem dX6_without_30 : decode cX6_without 30 = .ok (.iload 7, 2) := by decide +kernel
theorem dX6_without_32 : decode cX6_without 32 = .ok (.iaload, 1) := by decide +kernel
theorem dX6_without_33 : decode cX6_without 33 = .ok (.invokestatic 31, 3) := by decide +kernel
theorem dX6_without_36 : decode cX6_without 36 = .ok (.ldc2_w 35, 3) := by decide +kernel
theorem dX6_without_39 : decode cX6_without 39 = .ok (.lxor, 1) := by decide +kernel
theorem dX6_without_40 : decode cX6_without 40 = .ok (.land, 1) := by decide +kernel
theorem dX6_without_41 : decode cX6_without 41 = .ok (.lstore 5, 2) := by decide +kernel
theorem dX6_without_43 : decode cX6_without 43 = .ok (.iinc 7 1, 3) := by decide +kernel
theorem dX6_without_46 : decode cX6_without 46 = .ok (.goto (-40), 3) := by decide +kernel
theorem dX6_without_49 : decode cX6_without 49 = .ok (.lload 5, 2) := by decide +kernel
theorem dX6_without_51 : decode cX6_without 51 = .ok (.lreturn, 1) := by decide +kernel
theorem dX7_init_0 : decode cX7_init 0 = .ok (.aload_n 0, 1) := by decide +kernel
theorem dX7_init_1 : decode cX7_init 1 = .ok (.invokespecial 1, 3) := by decide +kernel
theorem dX7_init_4 : decode cX7_init 4 = .ok (.aload_n 0, 1) := by decide +kernel
theorem dX7_init_5 : decode cX7_init 5 = .ok (.new 7, 3) := by decide +kernel
theorem dX7_init_8 : decode cX7_init 8 = .ok (.dup, 1) := by decide +kernel
theorem dX7_init_9 : decode cX7_init 9 = .ok (.invokespecial 9, 3) := by decide +kernel
theorem dX7_init_12 : decode cX7_init 12 = .ok (.putfield 10, 3) := by decide +kernel
theorem dX7_init_15 : decode cX7_init 15 = .ok (.aload_n 0, 1) := by decide +kernel
theorem dX7_init_16 : decode cX7_init 16 = .ok (.new 16, 3) := by decide +kernel
theorem dX7_init_19 : decode cX7_init 19 = .ok (.dup, 1) := by decide +kernel
theorem dX7_init_20 : decode cX7_init 20 = .ok (.invokespecial 18, 3) := by decide +kernel
theorem dX7_init_23 : decode cX7_init 23 = .ok (.putfield 19, 3) := by decide +kernel
theorem dX7_init_26 : decode cX7_init 26 = .ok (.aload_n 0, 1) := by decide +kernel
theorem dX7_init_27 : decode cX7_init 27 = .ok (.new 23, 3) := by decide +kernel
theorem dX7_init_30 : decode cX7_init 30 = .ok (.dup, 1) := by decide +kernel
theorem dX7_init_31 : decode cX7_init 31 = .ok (.invokespecial 25, 3) := by decide +kernel
theorem dX7_init_34 : decode cX7_init 34 = .ok (.putfield 26, 3) := by decide +kernel
theorem dX7_init_37 : decode cX7_init 37 = .ok (.aload_n 0, 1) := by decide +kernel
theorem dX7_init_38 : decode cX7_init 38 = .ok (.new 30, 3) := by decide +kernel
theorem dX7_init_41 : decode cX7_init 41 = .ok (.dup, 1) := by decide +kernel
theorem dX7_init_42 : decode cX7_init 42 = .ok (.aload_n 0, 1) := by decide +kernel
theorem dX7_init_43 : decode cX7_init 43 = .ok (.getfield 10, 3) := by decide +kernel
theorem dX7_init_46 : decode cX7_init 46 = .ok (.aload_n 0, 1) := by decide +kernel
theorem dX7_init_47 : decode cX7_init 47 = .ok (.getfield 19, 3) := by decide +kernel
theorem dX7_init_50 : decode cX7_init 50 = .ok (.aload_n 0, 1) := by decide +kernel
theorem dX7_init_51 : decode cX7_init 51 = .ok (.getfield 26, 3) := by decide +kernel
theorem dX7_init_54 : decode cX7_init 54 = .ok (.invokespecial 32, 3) := by decide +kernel
theorem dX7_init_57 : decode cX7_init 57 = .ok (.putfield 35, 3) := by decide +kernel
theorem dX7_init_60 : decode cX7_init 60 = .ok (.aload_n 0, 1) := by decide +kernel
theorem dX7_init_61 : decode cX7_init 61 = .ok (.new 39, 3) := by decide +kernel
theorem dX7_init_64 : decode cX7_init 64 = .ok (.dup, 1) := by decide +kernel
theorem dX7_init_65 : decode cX7_init 65 = .ok (.aload_n 0, 1) := by decide +kernel
theorem dX7_init_66 : decode cX7_init 66 = .ok (.getfield 10, 3) := by decide +kernel
theorem dX7_init_69 : decode cX7_init 69 = .ok (.aload_n 0, 1) := by decide +kernel
theorem dX7_init_70 : decode cX7_init 70 = .ok (.getfield 19, 3) := by decide +kernel
theorem dX7_init_73 : decode cX7_init 73 = .ok (.invokespecial 41, 3) := by decide +kernel
theorem dX7_init_76 : decode cX7_init 76 = .ok (.putfield 44, 3) := by decide +kernel
theorem dX7_init_79 : decode cX7_init 79 = .ok (.return_, 1) := by decide +kernel
theorem dX7_name_0 : decode cX7_name 0 = .ok (.iload_n 1, 1) := by decide +kernel
theorem dX7_name_1 : decode cX7_name 1 = .ok (.invokestatic 48, 3) := by decide +kernel
theorem dX7_name_4 : decode cX7_name 4 = .ok (.ifCond .eq 15, 3) := by decide +kernel
theorem dX7_name_7 : decode cX7_name 7 = .ok (.iload_n 2, 1) := by decide +kernel
theorem dX7_name_8 : decode cX7_name 8 = .ok (.invokestatic 48, 3) := by decide +kernel
theorem dX7_name_11 : decode cX7_name 11 = .ok (.ifCond .eq 8, 3) := by decide +kernel
theorem dX7_name_14 : decode cX7_name 14 = .ok (.iload_n 1, 1) := by decide +kernel
theorem dX7_name_15 : decode cX7_name 15 = .ok (.iload_n 2, 1) := by decide +kernel
theorem dX7_name_16 : decode cX7_name 16 = .ok (.if_icmp .le 7, 3) := by decide +kernel
theorem dX7_name_19 : decode cX7_name 19 = .ok (.sipush (-1001), 3) := by decide +kernel
theorem dX7_name_22 : decode cX7_name 22 = .ok (.ireturn, 1) := by decide +kernel
theorem dX7_name_23 : decode cX7_name 23 = .ok (.aload_n 0, 1) := by decide +kernel
theorem dX7_name_24 : decode cX7_name 24 = .ok (.getfield 10, 3) := by decide +kernel
theorem dX7_name_27 : decode cX7_name 27 = .ok (.getfield 52, 3) := by decide +kernel
theorem dX7_name_30 : decode cX7_name 30 = .ok (.bipush 8, 2) := by decide +kernel
theorem dX7_name_32 : decode cX7_name 32 = .ok (.if_icmp .lt 7, 3) := by decide +kernel
theorem dX7_name_35 : decode cX7_name 35 = .ok (.sipush (-1003), 3) := by decide +kernel
theorem dX7_name_38 : decode cX7_name 38 = .ok (.ireturn, 1) := by decide +kernel
theorem dX7_name_39 : decode cX7_name 39 = .ok (.aload_n 0, 1) := by decide +kernel
theorem dX7_name_40 : decode cX7_name 40 = .ok (.getfield 10, 3) := by decide +kernel
theorem dX7_name_43 : decode cX7_name 43 = .ok (.iload_n 1, 1) := by decide +kernel
theorem dX7_name_44 : decode cX7_name 44 = .ok (.iload_n 2, 1) := by decide +kernel
theorem dX7_name_45 : decode cX7_name 45 = .ok (.invokevirtual 56, 3) := by decide +kernel
theorem dX7_name_48 : decode cX7_name 48 = .ok (.aload_n 0, 1) := by decide +kernel
theorem dX7_name_49 : decode cX7_name 49 = .ok (.invokevirtual 60, 3) := by decide +kernel
theorem dX7_name_52 : decode cX7_name 52 = .ok (.aload_n 0, 1) := by decide +kernel
theorem dX7_name_53 : decode cX7_name 53 = .ok (.getfield 10, 3) := by decide +kernel
theorem dX7_name_56 : decode cX7_name 56 = .ok (.getfield 52, 3) := by decide +kernel
theorem dX7_name_59 : decode cX7_name 59 = .ok (.iconst 1, 1) := by decide +kernel
theorem dX7_name_60 : decode cX7_name 60 = .ok (.isub, 1) := by decide +kernel
theorem dX7_name_61 : decode cX7_name 61 = .ok (.ireturn, 1) := by decide +kernel
theorem dX7_leave_0 : decode cX7_leave 0 = .ok (.aload_n 0, 1) := by decide +kernel
theorem dX7_leave_1 : decode cX7_leave 1 = .ok (.iload_n 1, 1) := by decide +kernel
theorem dX7_leave_2 : decode cX7_leave 2 = .ok (.invokevirtual 63, 3) := by decide +kernel
theorem dX7_leave_5 : decode cX7_leave 5 = .ok (.ifCond .eq 10, 3) := by decide +kernel
theorem dX7_leave_8 : decode cX7_leave 8 = .ok (.iload_n 2, 1) := by decide +kernel
theorem dX7_leave_9 : decode cX7_leave 9 = .ok (.invokestatic 48, 3) := by decide +kernel
theorem dX7_leave_12 : decode cX7_leave 12 = .ok (.ifCond .ne 7, 3) := by decide +kernel
theorem dX7_leave_15 : decode cX7_leave 15 = .ok (.sipush (-1001), 3) := by decide +kernel
theorem dX7_leave_18 : decode cX7_leave 18 = .ok (.ireturn, 1) := by decide +kernel
theorem dX7_leave_19 : decode cX7_leave 19 = .ok (.aload_n 0, 1) := by decide +kernel
theorem dX7_leave_20 : decode cX7_leave 20 = .ok (.getfield 10, 3) := by decide +kernel
theorem dX7_leave_23 : decode cX7_leave 23 = .ok (.getfield 66, 3) := by decide +kernel
theorem dX7_leave_26 : decode cX7_leave 26 = .ok (.iload_n 1, 1) := by decide +kernel
theorem dX7_leave_27 : decode cX7_leave 27 = .ok (.laload, 1) := by decide +kernel
theorem dX7_leave_28 : decode cX7_leave 28 = .ok (.lstore_n 3, 1) := by decide +kernel
theorem dX7_leave_29 : decode cX7_leave 29 = .ok (.lload_n 3, 1) := by decide +kernel
theorem dX7_leave_30 : decode cX7_leave 30 = .ok (.iload_n 2, 1) := by decide +kernel
theorem dX7_leave_31 : decode cX7_leave 31 = .ok (.invokestatic 70, 3) := by decide +kernel
theorem dX7_leave_34 : decode cX7_leave 34 = .ok (.lcmp, 1) := by decide +kernel
theorem dX7_leave_35 : decode cX7_leave 35 = .ok (.ifCond .ne 7, 3) := by decide +kernel
theorem dX7_leave_38 : decode cX7_leave 38 = .ok (.sipush (-1002), 3) := by decide +kernel
theorem dX7_leave_41 : decode cX7_leave 41 = .ok (.ireturn, 1) := by decide +kernel
theorem dX7_leave_42 : decode cX7_leave 42 = .ok (.aload_n 0, 1) := by decide +kernel
theorem dX7_leave_43 : decode cX7_leave 43 = .ok (.getfield 10, 3) := by decide +kernel
theorem dX7_leave_46 : decode cX7_leave 46 = .ok (.iload_n 1, 1) := by decide +kernel
theorem dX7_leave_47 : decode cX7_leave 47 = .ok (.iload_n 2, 1) := by decide +kernel
theorem dX7_leave_48 : decode cX7_leave 48 = .ok (.invokevirtual 74, 3) := by decide +kernel
theorem dX7_leave_51 : decode cX7_leave 51 = .ok (.aload_n 0, 1) := by decide +kernel
theorem dX7_leave_52 : decode cX7_leave 52 = .ok (.invokevirtual 60, 3) := by decide +kernel
theorem dX7_leave_55 : decode cX7_leave 55 = .ok (.lload_n 3, 1) := by decide +kernel
theorem dX7_leave_56 : decode cX7_leave 56 = .ok (.iload_n 2, 1) := by decide +kernel
theorem dX7_leave_57 : decode cX7_leave 57 = .ok (.invokestatic 77, 3) := by decide +kernel
theorem dX7_leave_60 : decode cX7_leave 60 = .ok (.ifCond .eq 7, 3) := by decide +kernel
theorem dX7_leave_63 : decode cX7_leave 63 = .ok (.iconst 1, 1) := by decide +kernel
theorem dX7_leave_64 : decode cX7_leave 64 = .ok (.goto 4, 3) := by decide +kernel
theorem dX7_leave_67 : decode cX7_leave 67 = .ok (.iconst 0, 1) := by decide +kernel
theorem dX7_leave_68 : decode cX7_leave 68 = .ok (.ireturn, 1) := by decide +kernel
theorem dX7_row_0 : decode cX7_row 0 = .ok (.iload_n 1, 1) := by decide +kernel
theorem dX7_row_1 : decode cX7_row 1 = .ok (.ifCond .lt 27, 3) := by decide +kernel
theorem dX7_row_4 : decode cX7_row 4 = .ok (.iload_n 1, 1) := by decide +kernel
theorem dX7_row_5 : decode cX7_row 5 = .ok (.getstatic 81, 3) := by decide +kernel
theorem dX7_row_8 : decode cX7_row 8 = .ok (.arraylength, 1) := by decide +kernel
theorem dX7_row_9 : decode cX7_row 9 = .ok (.if_icmp .ge 19, 3) := by decide +kernel
theorem dX7_row_12 : decode cX7_row 12 = .ok (.iload 5, 2) := by decide +kernel
theorem dX7_row_14 : decode cX7_row 14 = .ok (.sipush (-1000), 3) := by decide +kernel
theorem dX7_row_17 : decode cX7_row 17 = .ok (.if_icmp .lt 11, 3) := by decide +kernel
theorem dX7_row_20 : decode cX7_row 20 = .ok (.iload 5, 2) := by decide +kernel
theorem dX7_row_22 : decode cX7_row 22 = .ok (.sipush 1000, 3) := by decide +kernel
theorem dX7_row_25 : decode cX7_row 25 = .ok (.if_icmp .le 7, 3) := by decide +kernel
theorem dX7_row_28 : decode cX7_row 28 = .ok (.sipush (-1001), 3) := by decide +kernel
theorem dX7_row_31 : decode cX7_row 31 = .ok (.ireturn, 1) := by decide +kernel
theorem dX7_row_32 : decode cX7_row 32 = .ok (.getstatic 81, 3) := by decide +kernel
theorem dX7_row_35 : decode cX7_row 35 = .ok (.iload_n 1, 1) := by decide +kernel
theorem dX7_row_36 : decode cX7_row 36 = .ok (.iaload, 1) := by decide +kernel
theorem dX7_row_37 : decode cX7_row 37 = .ok (.istore 6, 2) := by decide +kernel
theorem dX7_row_39 : decode cX7_row 39 = .ok (.aload_n 0, 1) := by decide +kernel
theorem dX7_row_40 : decode cX7_row 40 = .ok (.iload 6, 2) := by decide +kernel
theorem dX7_row_42 : decode cX7_row 42 = .ok (.iload_n 2, 1) := by decide +kernel
theorem dX7_row_43 : decode cX7_row 43 = .ok (.iload_n 3, 1) := by decide +kernel
theorem dX7_row_44 : decode cX7_row 44 = .ok (.iload 4, 2) := by decide +kernel
theorem dX7_row_46 : decode cX7_row 46 = .ok (.invokevirtual 85, 3) := by decide +kernel
theorem dX7_row_49 : decode cX7_row 49 = .ok (.ifCond .ne 7, 3) := by decide +kernel
theorem dX7_row_52 : decode cX7_row 52 = .ok (.sipush (-1001), 3) := by decide +kernel
theorem dX7_row_55 : decode cX7_row 55 = .ok (.ireturn, 1) := by decide +kernel
theorem dX7_row_56 : decode cX7_row 56 = .ok (.aload_n 0, 1) := by decide +kernel
theorem dX7_row_57 : decode cX7_row 57 = .ok (.getfield 19, 3) := by decide +kernel
theorem dX7_row_60 : decode cX7_row 60 = .ok (.getfield 89, 3) := by decide +kernel
theorem dX7_row_63 : decode cX7_row 63 = .ok (.bipush 12, 2) := by decide +kernel
theorem dX7_row_65 : decode cX7_row 65 = .ok (.if_icmp .lt 7, 3) := by decide +kernel
theorem dX7_row_68 : decode cX7_row 68 = .ok (.sipush (-1003), 3) := by decide +kernel
theorem dX7_row_71 : decode cX7_row 71 = .ok (.ireturn, 1) := by decide +kernel
theorem dX7_row_72 : decode cX7_row 72 = .ok (.aload_n 0, 1) := by decide +kernel
theorem dX7_row_73 : decode cX7_row 73 = .ok (.getfield 19, 3) := by decide +kernel
theorem dX7_row_76 : decode cX7_row 76 = .ok (.getfield 90, 3) := by decide +kernel
theorem dX7_row_79 : decode cX7_row 79 = .ok (.aload_n 0, 1) := by decide +kernel
theorem dX7_row_80 : decode cX7_row 80 = .ok (.getfield 19, 3) := by decide +kernel
theorem dX7_row_83 : decode cX7_row 83 = .ok (.getfield 89, 3) := by decide +kernel
theorem dX7_row_86 : decode cX7_row 86 = .ok (.aaload, 1) := by decide +kernel
theorem dX7_row_87 : decode cX7_row 87 = .ok (.astore 7, 2) := by decide +kernel
theorem dX7_row_89 : decode cX7_row 89 = .ok (.aload 7, 2) := by decide +kernel
theorem dX7_row_91 : decode cX7_row 91 = .ok (.iload_n 1, 1) := by decide +kernel
theorem dX7_row_92 : decode cX7_row 92 = .ok (.iload 5, 2) := by decide +kernel
theorem dX7_row_94 : decode cX7_row 94 = .ok (.invokevirtual 94, 3) := by decide +kernel
theorem dX7_row_97 : decode cX7_row 97 = .ok (.aload 7, 2) := by decide +kernel
theorem dX7_row_99 : decode cX7_row 99 = .ok (.iload 6, 2) := by decide +kernel
theorem dX7_row_101 : decode cX7_row 101 = .ok (.iconst 1, 1) := by decide +kernel
theorem dX7_row_102 : decode cX7_row 102 = .ok (.if_icmp .lt 7, 3) := by decide +kernel
theorem dX7_row_105 : decode cX7_row 105 = .ok (.iload_n 2, 1) := by decide +kernel
theorem dX7_row_106 : decode cX7_row 106 = .ok (.goto 4, 3) := by decide +kernel
theorem dX7_row_109 : decode cX7_row 109 = .ok (.iconst (-1), 1) := by decide +kernel
theorem dX7_row_110 : decode cX7_row 110 = .ok (.iload 6, 2) := by decide +kernel
theorem dX7_row_112 : decode cX7_row 112 = .ok (.iconst 2, 1) := by decide +kernel
theorem dX7_row_113 : decode cX7_row 113 = .ok (.if_icmp .lt 7, 3) := by decide +kernel
theorem dX7_row_116 : decode cX7_row 116 = .ok (.iload_n 3, 1) := by decide +kernel
theorem dX7_row_117 : decode cX7_row 117 = .ok (.goto 4, 3) := by decide +kernel
theorem dX7_row_120 : decode cX7_row 120 = .ok (.iconst (-1), 1) := by decide +kernel
theorem dX7_row_121 : decode cX7_row 121 = .ok (.iload 6, 2) := by decide +kernel
theorem dX7_row_123 : decode cX7_row 123 = .ok (.iconst 3, 1) := by decide +kernel
theorem dX7_row_124 : decode cX7_row 124 = .ok (.if_icmp .lt 8, 3) := by decide +kernel
theorem dX7_row_127 : decode cX7_row 127 = .ok (.iload 4, 2) := by decide +kernel
theorem dX7_row_129 : decode cX7_row 129 = .ok (.goto 4, 3) := by decide +kernel
theorem dX7_row_132 : decode cX7_row 132 = .ok (.iconst (-1), 1) := by decide +kernel
theorem dX7_row_133 : decode cX7_row 133 = .ok (.invokevirtual 99, 3) := by decide +kernel
theorem dX7_row_136 : decode cX7_row 136 = .ok (.aload_n 0, 1) := by decide +kernel
theorem dX7_row_137 : decode cX7_row 137 = .ok (.getfield 19, 3) := by decide +kernel
theorem dX7_row_140 : decode cX7_row 140 = .ok (.dup, 1) := by decide +kernel
theorem dX7_row_141 : decode cX7_row 141 = .ok (.getfield 89, 3) := by decide +kernel
theorem dX7_row_144 : decode cX7_row 144 = .ok (.iconst 1, 1) := by decide +kernel
theorem dX7_row_145 : decode cX7_row 145 = .ok (.iadd, 1) := by decide +kernel
theorem dX7_row_146 : decode cX7_row 146 = .ok (.putfield 89, 3) := by decide +kernel
theorem dX7_row_149 : decode cX7_row 149 = .ok (.aload_n 0, 1) := by decide +kernel
theorem dX7_row_150 : decode cX7_row 150 = .ok (.invokevirtual 60, 3) := by decide +kernel
theorem dX7_row_153 : decode cX7_row 153 = .ok (.aload_n 0, 1) := by decide +kernel
theorem dX7_row_154 : decode cX7_row 154 = .ok (.getfield 19, 3) := by decide +kernel
theorem dX7_row_157 : decode cX7_row 157 = .ok (.getfield 89, 3) := by decide +kernel
theorem dX7_row_160 : decode cX7_row 160 = .ok (.iconst 1, 1) := by decide +kernel
theorem dX7_row_161 : decode cX7_row 161 = .ok (.isub, 1) := by decide +kernel
theorem dX7_row_162 : decode cX7_row 162 = .ok (.ireturn, 1) := by decide +kernel
theorem dX7_factor_0 : decode cX7_factor 0 = .ok (.aload_n 0, 1) := by decide +kernel
theorem dX7_factor_1 : decode cX7_factor 1 = .ok (.iload_n 1, 1) := by decide +kernel
theorem dX7_factor_2 : decode cX7_factor 2 = .ok (.invokevirtual 103, 3) := by decide +kernel
theorem dX7_factor_5 : decode cX7_factor 5 = .ok (.ifCond .eq 23, 3) := by decide +kernel
theorem dX7_factor_8 : decode cX7_factor 8 = .ok (.aload_n 0, 1) := by decide +kernel
theorem dX7_factor_9 : decode cX7_factor 9 = .ok (.iload_n 2, 1) := by decide +kernel
theorem dX7_factor_10 : decode cX7_factor 10 = .ok (.invokevirtual 63, 3) := by decide +kernel
theorem dX7_factor_13 : decode cX7_factor 13 = .ok (.ifCond .eq 15, 3) := by decide +kernel
theorem dX7_factor_16 : decode cX7_factor 16 = .ok (.iload_n 3, 1) := by decide +kernel
theorem dX7_factor_17 : decode cX7_factor 17 = .ok (.bipush (-9), 2) := by decide +kernel
theorem dX7_factor_19 : decode cX7_factor 19 = .ok (.if_icmp .lt 9, 3) := by decide +kernel
theorem dX7_factor_22 : decode cX7_factor 22 = .ok (.iload_n 3, 1) := by decide +kernel
theorem dX7_factor_23 : decode cX7_factor 23 = .ok (.bipush 9, 2) := by decide +kernel
theorem dX7_factor_25 : decode cX7_factor 25 = .ok (.if_icmp .le 7, 3) := by decide +kernel
theorem dX7_factor_28 : decode cX7_factor 28 = .ok (.sipush (-1001), 3) := by decide +kernel
theorem dX7_factor_31 : decode cX7_factor 31 = .ok (.ireturn, 1) := by decide +kernel
theorem dX7_factor_32 : decode cX7_factor 32 = .ok (.aload_n 0, 1) := by decide +kernel
theorem dX7_factor_33 : decode cX7_factor 33 = .ok (.getfield 19, 3) := by decide +kernel
theorem dX7_factor_36 : decode cX7_factor 36 = .ok (.getfield 90, 3) := by decide +kernel
theorem dX7_factor_39 : decode cX7_factor 39 = .ok (.iload_n 1, 1) := by decide +kernel
theorem dX7_factor_40 : decode cX7_factor 40 = .ok (.aaload, 1) := by decide +kernel
theorem dX7_factor_41 : decode cX7_factor 41 = .ok (.astore 4, 2) := by decide +kernel
theorem dX7_factor_43 : decode cX7_factor 43 = .ok (.aload 4, 2) := by decide +kernel
theorem dX7_factor_45 : decode cX7_factor 45 = .ok (.invokevirtual 106, 3) := by decide +kernel
theorem dX7_factor_48 : decode cX7_factor 48 = .ok (.ifCond .eq 12, 3) := by decide +kernel
theorem dX7_factor_51 : decode cX7_factor 51 = .ok (.aload 4, 2) := by decide +kernel
theorem dX7_factor_53 : decode cX7_factor 53 = .ok (.getfield 110, 3) := by decide +kernel
theorem dX7_factor_56 : decode cX7_factor 56 = .ok (.iload_n 2, 1) := by decide +kernel
theorem dX7_factor_57 : decode cX7_factor 57 = .ok (.if_icmp .ne 7, 3) := by decide +kernel
theorem dX7_factor_60 : decode cX7_factor 60 = .ok (.sipush (-1002), 3) := by decide +kernel
theorem dX7_factor_63 : decode cX7_factor 63 = .ok (.ireturn, 1) := by decide +kernel
theorem dX7_factor_64 : decode cX7_factor 64 = .ok (.aload 4, 2) := by decide +kernel
theorem dX7_factor_66 : decode cX7_factor 66 = .ok (.getfield 113, 3) := by decide +kernel
theorem dX7_factor_69 : decode cX7_factor 69 = .ok (.iload_n 2, 1) := by decide +kernel
theorem dX7_factor_70 : decode cX7_factor 70 = .ok (.iaload, 1) := by decide +kernel
theorem dX7_factor_71 : decode cX7_factor 71 = .ok (.istore 5, 2) := by decide +kernel
theorem dX7_factor_73 : decode cX7_factor 73 = .ok (.aload 4, 2) := by decide +kernel
theorem dX7_factor_75 : decode cX7_factor 75 = .ok (.getfield 113, 3) := by decide +kernel
theorem dX7_factor_78 : decode cX7_factor 78 = .ok (.iload_n 2, 1) := by decide +kernel
theorem dX7_factor_79 : decode cX7_factor 79 = .ok (.iload_n 3, 1) := by decide +kernel
theorem dX7_factor_80 : decode cX7_factor 80 = .ok (.iastore, 1) := by decide +kernel
theorem dX7_factor_81 : decode cX7_factor 81 = .ok (.aload_n 0, 1) := by decide +kernel
theorem dX7_factor_82 : decode cX7_factor 82 = .ok (.invokevirtual 60, 3) := by decide +kernel
theorem dX7_factor_85 : decode cX7_factor 85 = .ok (.iload 5, 2) := by decide +kernel
theorem dX7_factor_87 : decode cX7_factor 87 = .ok (.ireturn, 1) := by decide +kernel
theorem dX7_clear_0 : decode cX7_clear 0 = .ok (.aload_n 0, 1) := by decide +kernel
theorem dX7_clear_1 : decode cX7_clear 1 = .ok (.getfield 10, 3) := by decide +kernel
theorem dX7_clear_4 : decode cX7_clear 4 = .ok (.getfield 52, 3) := by decide +kernel
theorem dX7_clear_7 : decode cX7_clear 7 = .ok (.istore_n 1, 1) := by decide +kernel
theorem dX7_clear_8 : decode cX7_clear 8 = .ok (.aload_n 0, 1) := by decide +kernel
theorem dX7_clear_9 : decode cX7_clear 9 = .ok (.getfield 10, 3) := by decide +kernel
theorem dX7_clear_12 : decode cX7_clear 12 = .ok (.iconst 0, 1) := by decide +kernel
theorem dX7_clear_13 : decode cX7_clear 13 = .ok (.putfield 52, 3) := by decide +kernel
theorem dX7_clear_16 : decode cX7_clear 16 = .ok (.aload_n 0, 1) := by decide +kernel
theorem dX7_clear_17 : decode cX7_clear 17 = .ok (.getfield 19, 3) := by decide +kernel
theorem dX7_clear_20 : decode cX7_clear 20 = .ok (.iconst 0, 1) := by decide +kernel
theorem dX7_clear_21 : decode cX7_clear 21 = .ok (.putfield 89, 3) := by decide +kernel
theorem dX7_clear_24 : decode cX7_clear 24 = .ok (.aload_n 0, 1) := by decide +kernel
theorem dX7_clear_25 : decode cX7_clear 25 = .ok (.invokevirtual 60, 3) := by decide +kernel
theorem dX7_clear_28 : decode cX7_clear 28 = .ok (.iload_n 1, 1) := by decide +kernel
theorem dX7_clear_29 : decode cX7_clear 29 = .ok (.ireturn, 1) := by decide +kernel
