theorem dX0_init_0 : decode cX0_init 0 = .ok (.aload_n 0, 1) := by decide +kernel
theorem dX0_init_1 : decode cX0_init 1 = .ok (.invokespecial 3, 3) := by decide +kernel
theorem dX0_init_4 : decode cX0_init 4 = .ok (.aload_n 0, 1) := by decide +kernel
theorem dX0_init_5 : decode cX0_init 5 = .ok (.bipush 8, 2) := by decide +kernel
theorem dX0_init_7 : decode cX0_init 7 = .ok (.newarray .int, 2) := by decide +kernel
theorem dX0_init_9 : decode cX0_init 9 = .ok (.putfield 9, 3) := by decide +kernel
theorem dX0_init_12 : decode cX0_init 12 = .ok (.aload_n 0, 1) := by decide +kernel
theorem dX0_init_13 : decode cX0_init 13 = .ok (.bipush 12, 2) := by decide +kernel
theorem dX0_init_15 : decode cX0_init 15 = .ok (.newarray .int, 2) := by decide +kernel
theorem dX0_init_17 : decode cX0_init 17 = .ok (.putfield 15, 3) := by decide +kernel
theorem dX0_init_20 : decode cX0_init 20 = .ok (.aload_n 0, 1) := by decide +kernel
theorem dX0_init_21 : decode cX0_init 21 = .ok (.aload_n 1, 1) := by decide +kernel
theorem dX0_init_22 : decode cX0_init 22 = .ok (.putfield 18, 3) := by decide +kernel
theorem dX0_init_25 : decode cX0_init 25 = .ok (.aload_n 0, 1) := by decide +kernel
theorem dX0_init_26 : decode cX0_init 26 = .ok (.aload_n 2, 1) := by decide +kernel
theorem dX0_init_27 : decode cX0_init 27 = .ok (.putfield 22, 3) := by decide +kernel
theorem dX0_init_30 : decode cX0_init 30 = .ok (.return_, 1) := by decide +kernel
theorem dX0_countAll_0 : decode cX0_countAll 0 = .ok (.iconst 0, 1) := by decide +kernel
theorem dX0_countAll_1 : decode cX0_countAll 1 = .ok (.istore_n 1, 1) := by decide +kernel
theorem dX0_countAll_2 : decode cX0_countAll 2 = .ok (.iload_n 1, 1) := by decide +kernel
theorem dX0_countAll_3 : decode cX0_countAll 3 = .ok (.aload_n 0, 1) := by decide +kernel
theorem dX0_countAll_4 : decode cX0_countAll 4 = .ok (.getfield 22, 3) := by decide +kernel
theorem dX0_countAll_7 : decode cX0_countAll 7 = .ok (.getfield 26, 3) := by decide +kernel
theorem dX0_countAll_10 : decode cX0_countAll 10 = .ok (.if_icmp .ge 27, 3) := by decide +kernel
theorem dX0_countAll_13 : decode cX0_countAll 13 = .ok (.aload_n 0, 1) := by decide +kernel
theorem dX0_countAll_14 : decode cX0_countAll 14 = .ok (.getfield 15, 3) := by decide +kernel
theorem dX0_countAll_17 : decode cX0_countAll 17 = .ok (.iload_n 1, 1) := by decide +kernel
theorem dX0_countAll_18 : decode cX0_countAll 18 = .ok (.aload_n 0, 1) := by decide +kernel
theorem dX0_countAll_19 : decode cX0_countAll 19 = .ok (.getfield 22, 3) := by decide +kernel
theorem dX0_countAll_22 : decode cX0_countAll 22 = .ok (.getfield 32, 3) := by decide +kernel
theorem dX0_countAll_25 : decode cX0_countAll 25 = .ok (.iload_n 1, 1) := by decide +kernel
theorem dX0_countAll_26 : decode cX0_countAll 26 = .ok (.aaload, 1) := by decide +kernel
theorem dX0_countAll_27 : decode cX0_countAll 27 = .ok (.invokevirtual 36, 3) := by decide +kernel
theorem dX0_countAll_30 : decode cX0_countAll 30 = .ok (.iastore, 1) := by decide +kernel
theorem dX0_countAll_31 : decode cX0_countAll 31 = .ok (.iinc 1 1, 3) := by decide +kernel
theorem dX0_countAll_34 : decode cX0_countAll 34 = .ok (.goto (-32), 3) := by decide +kernel
theorem dX0_countAll_37 : decode cX0_countAll 37 = .ok (.aload_n 0, 1) := by decide +kernel
theorem dX0_countAll_38 : decode cX0_countAll 38 = .ok (.iconst (-1), 1) := by decide +kernel
theorem dX0_countAll_39 : decode cX0_countAll 39 = .ok (.invokevirtual 42, 3) := by decide +kernel
theorem dX0_countAll_42 : decode cX0_countAll 42 = .ok (.ifCond .eq 11, 3) := by decide +kernel
theorem dX0_countAll_45 : decode cX0_countAll 45 = .ok (.aload_n 0, 1) := by decide +kernel
theorem dX0_countAll_46 : decode cX0_countAll 46 = .ok (.iconst 0, 1) := by decide +kernel
theorem dX0_countAll_47 : decode cX0_countAll 47 = .ok (.invokevirtual 46, 3) := by decide +kernel
theorem dX0_countAll_50 : decode cX0_countAll 50 = .ok (.goto 4, 3) := by decide +kernel
theorem dX0_countAll_53 : decode cX0_countAll 53 = .ok (.iconst 0, 1) := by decide +kernel
theorem dX0_countAll_54 : decode cX0_countAll 54 = .ok (.ireturn, 1) := by decide +kernel
theorem dX0_countFrom_0 : decode cX0_countFrom 0 = .ok (.iload_n 1, 1) := by decide +kernel
theorem dX0_countFrom_1 : decode cX0_countFrom 1 = .ok (.aload_n 0, 1) := by decide +kernel
theorem dX0_countFrom_2 : decode cX0_countFrom 2 = .ok (.getfield 18, 3) := by decide +kernel
theorem dX0_countFrom_5 : decode cX0_countFrom 5 = .ok (.getfield 50, 3) := by decide +kernel
theorem dX0_countFrom_8 : decode cX0_countFrom 8 = .ok (.if_icmp .lt 5, 3) := by decide +kernel
theorem dX0_countFrom_11 : decode cX0_countFrom 11 = .ok (.iconst 1, 1) := by decide +kernel
theorem dX0_countFrom_12 : decode cX0_countFrom 12 = .ok (.ireturn, 1) := by decide +kernel
theorem dX0_countFrom_13 : decode cX0_countFrom 13 = .ok (.iconst 0, 1) := by decide +kernel
theorem dX0_countFrom_14 : decode cX0_countFrom 14 = .ok (.istore_n 2, 1) := by decide +kernel
theorem dX0_countFrom_15 : decode cX0_countFrom 15 = .ok (.aload_n 0, 1) := by decide +kernel
theorem dX0_countFrom_16 : decode cX0_countFrom 16 = .ok (.getfield 18, 3) := by decide +kernel
theorem dX0_countFrom_19 : decode cX0_countFrom 19 = .ok (.getfield 53, 3) := by decide +kernel
theorem dX0_countFrom_22 : decode cX0_countFrom 22 = .ok (.getfield 57, 3) := by decide +kernel
theorem dX0_countFrom_25 : decode cX0_countFrom 25 = .ok (.iload_n 1, 1) := by decide +kernel
theorem dX0_countFrom_26 : decode cX0_countFrom 26 = .ok (.iaload, 1) := by decide +kernel
theorem dX0_countFrom_27 : decode cX0_countFrom 27 = .ok (.istore_n 3, 1) := by decide +kernel
theorem dX0_countFrom_28 : decode cX0_countFrom 28 = .ok (.iload_n 3, 1) := by decide +kernel
theorem dX0_countFrom_29 : decode cX0_countFrom 29 = .ok (.aload_n 0, 1) := by decide +kernel
theorem dX0_countFrom_30 : decode cX0_countFrom 30 = .ok (.getfield 18, 3) := by decide +kernel
theorem dX0_countFrom_33 : decode cX0_countFrom 33 = .ok (.getfield 53, 3) := by decide +kernel
theorem dX0_countFrom_36 : decode cX0_countFrom 36 = .ok (.getfield 62, 3) := by decide +kernel
theorem dX0_countFrom_39 : decode cX0_countFrom 39 = .ok (.iload_n 1, 1) := by decide +kernel
theorem dX0_countFrom_40 : decode cX0_countFrom 40 = .ok (.iaload, 1) := by decide +kernel
theorem dX0_countFrom_41 : decode cX0_countFrom 41 = .ok (.if_icmp .gt 54, 3) := by decide +kernel
theorem dX0_countFrom_44 : decode cX0_countFrom 44 = .ok (.aload_n 0, 1) := by decide +kernel
theorem dX0_countFrom_45 : decode cX0_countFrom 45 = .ok (.getfield 18, 3) := by decide +kernel
theorem dX0_countFrom_48 : decode cX0_countFrom 48 = .ok (.getfield 65, 3) := by decide +kernel
theorem dX0_countFrom_51 : decode cX0_countFrom 51 = .ok (.iload_n 1, 1) := by decide +kernel
theorem dX0_countFrom_52 : decode cX0_countFrom 52 = .ok (.laload, 1) := by decide +kernel
theorem dX0_countFrom_53 : decode cX0_countFrom 53 = .ok (.iload_n 3, 1) := by decide +kernel
theorem dX0_countFrom_54 : decode cX0_countFrom 54 = .ok (.invokestatic 69, 3) := by decide +kernel
theorem dX0_countFrom_57 : decode cX0_countFrom 57 = .ok (.ifCond .eq 32, 3) := by decide +kernel
theorem dX0_countFrom_60 : decode cX0_countFrom 60 = .ok (.aload_n 0, 1) := by decide +kernel
theorem dX0_countFrom_61 : decode cX0_countFrom 61 = .ok (.getfield 9, 3) := by decide +kernel
theorem dX0_countFrom_64 : decode cX0_countFrom 64 = .ok (.iload_n 1, 1) := by decide +kernel
theorem dX0_countFrom_65 : decode cX0_countFrom 65 = .ok (.iload_n 3, 1) := by decide +kernel
theorem dX0_countFrom_66 : decode cX0_countFrom 66 = .ok (.iastore, 1) := by decide +kernel
theorem dX0_countFrom_67 : decode cX0_countFrom 67 = .ok (.iload_n 2, 1) := by decide +kernel
theorem dX0_countFrom_68 : decode cX0_countFrom 68 = .ok (.aload_n 0, 1) := by decide +kernel
theorem dX0_countFrom_69 : decode cX0_countFrom 69 = .ok (.iload_n 1, 1) := by decide +kernel
theorem dX0_countFrom_70 : decode cX0_countFrom 70 = .ok (.invokevirtual 42, 3) := by decide +kernel
theorem dX0_countFrom_73 : decode cX0_countFrom 73 = .ok (.ifCond .eq 13, 3) := by decide +kernel
theorem dX0_countFrom_76 : decode cX0_countFrom 76 = .ok (.aload_n 0, 1) := by decide +kernel
theorem dX0_countFrom_77 : decode cX0_countFrom 77 = .ok (.iload_n 1, 1) := by decide +kernel
theorem dX0_countFrom_78 : decode cX0_countFrom 78 = .ok (.iconst 1, 1) := by decide +kernel
theorem dX0_countFrom_79 : decode cX0_countFrom 79 = .ok (.iadd, 1) := by decide +kernel
theorem dX0_countFrom_80 : decode cX0_countFrom 80 = .ok (.invokevirtual 46, 3) := by decide +kernel
theorem dX0_countFrom_83 : decode cX0_countFrom 83 = .ok (.goto 4, 3) := by decide +kernel
theorem dX0_countFrom_86 : decode cX0_countFrom 86 = .ok (.iconst 0, 1) := by decide +kernel
theorem dX0_countFrom_87 : decode cX0_countFrom 87 = .ok (.iadd, 1) := by decide +kernel
theorem dX0_countFrom_88 : decode cX0_countFrom 88 = .ok (.istore_n 2, 1) := by decide +kernel
theorem dX0_countFrom_89 : decode cX0_countFrom 89 = .ok (.iinc 3 1, 3) := by decide +kernel
theorem dX0_countFrom_92 : decode cX0_countFrom 92 = .ok (.goto (-64), 3) := by decide +kernel
theorem dX0_countFrom_95 : decode cX0_countFrom 95 = .ok (.iload_n 2, 1) := by decide +kernel
theorem dX0_countFrom_96 : decode cX0_countFrom 96 = .ok (.ireturn, 1) := by decide +kernel
theorem dX0_rowsHoldWith_0 : decode cX0_rowsHoldWith 0 = .ok (.iconst 0, 1) := by decide +kernel
theorem dX0_rowsHoldWith_1 : decode cX0_rowsHoldWith 1 = .ok (.istore_n 2, 1) := by decide +kernel
theorem dX0_rowsHoldWith_2 : decode cX0_rowsHoldWith 2 = .ok (.iload_n 2, 1) := by decide +kernel
theorem dX0_rowsHoldWith_3 : decode cX0_rowsHoldWith 3 = .ok (.aload_n 0, 1) := by decide +kernel
theorem dX0_rowsHoldWith_4 : decode cX0_rowsHoldWith 4 = .ok (.getfield 22, 3) := by decide +kernel
theorem dX0_rowsHoldWith_7 : decode cX0_rowsHoldWith 7 = .ok (.getfield 26, 3) := by decide +kernel
theorem dX0_rowsHoldWith_10 : decode cX0_rowsHoldWith 10 = .ok (.if_icmp .ge 40, 3) := by decide +kernel
theorem dX0_rowsHoldWith_13 : decode cX0_rowsHoldWith 13 = .ok (.aload_n 0, 1) := by decide +kernel
theorem dX0_rowsHoldWith_14 : decode cX0_rowsHoldWith 14 = .ok (.getfield 15, 3) := by decide +kernel
theorem dX0_rowsHoldWith_17 : decode cX0_rowsHoldWith 17 = .ok (.iload_n 2, 1) := by decide +kernel
theorem dX0_rowsHoldWith_18 : decode cX0_rowsHoldWith 18 = .ok (.iaload, 1) := by decide +kernel
theorem dX0_rowsHoldWith_19 : decode cX0_rowsHoldWith 19 = .ok (.iload_n 1, 1) := by decide +kernel
theorem dX0_rowsHoldWith_20 : decode cX0_rowsHoldWith 20 = .ok (.if_icmp .ne 24, 3) := by decide +kernel
theorem dX0_rowsHoldWith_23 : decode cX0_rowsHoldWith 23 = .ok (.aload_n 0, 1) := by decide +kernel
theorem dX0_rowsHoldWith_24 : decode cX0_rowsHoldWith 24 = .ok (.getfield 22, 3) := by decide +kernel
theorem dX0_rowsHoldWith_27 : decode cX0_rowsHoldWith 27 = .ok (.getfield 32, 3) := by decide +kernel
theorem dX0_rowsHoldWith_30 : decode cX0_rowsHoldWith 30 = .ok (.iload_n 2, 1) := by decide +kernel
theorem dX0_rowsHoldWith_31 : decode cX0_rowsHoldWith 31 = .ok (.aaload, 1) := by decide +kernel
theorem dX0_rowsHoldWith_32 : decode cX0_rowsHoldWith 32 = .ok (.aload_n 0, 1) := by decide +kernel
theorem dX0_rowsHoldWith_33 : decode cX0_rowsHoldWith 33 = .ok (.getfield 9, 3) := by decide +kernel
theorem dX0_rowsHoldWith_36 : decode cX0_rowsHoldWith 36 = .ok (.invokevirtual 73, 3) := by decide +kernel
theorem dX0_rowsHoldWith_39 : decode cX0_rowsHoldWith 39 = .ok (.ifCond .ne 5, 3) := by decide +kernel
theorem dX0_rowsHoldWith_42 : decode cX0_rowsHoldWith 42 = .ok (.iconst 0, 1) := by decide +kernel
theorem dX0_rowsHoldWith_43 : decode cX0_rowsHoldWith 43 = .ok (.ireturn, 1) := by decide +kernel
theorem dX0_rowsHoldWith_44 : decode cX0_rowsHoldWith 44 = .ok (.iinc 2 1, 3) := by decide +kernel
theorem dX0_rowsHoldWith_47 : decode cX0_rowsHoldWith 47 = .ok (.goto (-45), 3) := by decide +kernel
theorem dX0_rowsHoldWith_50 : decode cX0_rowsHoldWith 50 = .ok (.iconst 1, 1) := by decide +kernel
theorem dX0_rowsHoldWith_51 : decode cX0_rowsHoldWith 51 = .ok (.ireturn, 1) := by decide +kernel
theorem dX1_init_0 : decode cX1_init 0 = .ok (.aload_n 0, 1) := by decide +kernel
theorem dX1_init_1 : decode cX1_init 1 = .ok (.invokespecial 3, 3) := by decide +kernel
theorem dX1_init_4 : decode cX1_init 4 = .ok (.aload_n 0, 1) := by decide +kernel
theorem dX1_init_5 : decode cX1_init 5 = .ok (.iconst 0, 1) := by decide +kernel
theorem dX1_init_6 : decode cX1_init 6 = .ok (.putfield 9, 3) := by decide +kernel
theorem dX1_init_9 : decode cX1_init 9 = .ok (.aload_n 0, 1) := by decide +kernel
theorem dX1_init_10 : decode cX1_init 10 = .ok (.iconst (-1), 1) := by decide +kernel
theorem dX1_init_11 : decode cX1_init 11 = .ok (.putfield 15, 3) := by decide +kernel
theorem dX1_init_14 : decode cX1_init 14 = .ok (.aload_n 0, 1) := by decide +kernel
theorem dX1_init_15 : decode cX1_init 15 = .ok (.iconst (-1), 1) := by decide +kernel
theorem dX1_init_16 : decode cX1_init 16 = .ok (.putfield 18, 3) := by decide +kernel
theorem dX1_init_19 : decode cX1_init 19 = .ok (.aload_n 0, 1) := by decide +kernel
theorem dX1_init_20 : decode cX1_init 20 = .ok (.iconst (-1), 1) := by decide +kernel
theorem dX1_init_21 : decode cX1_init 21 = .ok (.putfield 21, 3) := by decide +kernel
theorem dX1_init_24 : decode cX1_init 24 = .ok (.aload_n 0, 1) := by decide +kernel
theorem dX1_init_25 : decode cX1_init 25 = .ok (.iconst 0, 1) := by decide +kernel
theorem dX1_init_26 : decode cX1_init 26 = .ok (.putfield 24, 3) := by decide +kernel
theorem dX1_init_29 : decode cX1_init 29 = .ok (.aload_n 0, 1) := by decide +kernel
theorem dX1_init_30 : decode cX1_init 30 = .ok (.bipush 8, 2) := by decide +kernel
theorem dX1_init_32 : decode cX1_init 32 = .ok (.newarray .int, 2) := by decide +kernel
theorem dX1_init_34 : decode cX1_init 34 = .ok (.putfield 27, 3) := by decide +kernel
theorem dX1_init_37 : decode cX1_init 37 = .ok (.return_, 1) := by decide +kernel
theorem dX1_become_0 : decode cX1_become 0 = .ok (.aload_n 0, 1) := by decide +kernel
theorem dX1_become_1 : decode cX1_become 1 = .ok (.iload_n 1, 1) := by decide +kernel
theorem dX1_become_2 : decode cX1_become 2 = .ok (.putfield 9, 3) := by decide +kernel
theorem dX1_become_5 : decode cX1_become 5 = .ok (.aload_n 0, 1) := by decide +kernel
theorem dX1_become_6 : decode cX1_become 6 = .ok (.iload_n 2, 1) := by decide +kernel
theorem dX1_become_7 : decode cX1_become 7 = .ok (.putfield 24, 3) := by decide +kernel
theorem dX1_become_10 : decode cX1_become 10 = .ok (.iconst 0, 1) := by decide +kernel
theorem dX1_become_11 : decode cX1_become 11 = .ok (.istore_n 3, 1) := by decide +kernel
theorem dX1_become_12 : decode cX1_become 12 = .ok (.iload_n 3, 1) := by decide +kernel
theorem dX1_become_13 : decode cX1_become 13 = .ok (.bipush 8, 2) := by decide +kernel
theorem dX1_become_15 : decode cX1_become 15 = .ok (.if_icmp .ge 16, 3) := by decide +kernel
theorem dX1_become_18 : decode cX1_become 18 = .ok (.aload_n 0, 1) := by decide +kernel
theorem dX1_become_19 : decode cX1_become 19 = .ok (.getfield 27, 3) := by decide +kernel
theorem dX1_become_22 : decode cX1_become 22 = .ok (.iload_n 3, 1) := by decide +kernel
theorem dX1_become_23 : decode cX1_become 23 = .ok (.iconst 0, 1) := by decide +kernel
theorem dX1_become_24 : decode cX1_become 24 = .ok (.iastore, 1) := by decide +kernel
theorem dX1_become_25 : decode cX1_become 25 = .ok (.iinc 3 1, 3) := by decide +kernel
theorem dX1_become_28 : decode cX1_become 28 = .ok (.goto (-16), 3) := by decide +kernel
theorem dX1_become_31 : decode cX1_become 31 = .ok (.return_, 1) := by decide +kernel
theorem dX1_tie_0 : decode cX1_tie 0 = .ok (.aload_n 0, 1) := by decide +kernel
theorem dX1_tie_1 : decode cX1_tie 1 = .ok (.iload_n 1, 1) := by decide +kernel
theorem dX1_tie_2 : decode cX1_tie 2 = .ok (.putfield 15, 3) := by decide +kernel
theorem dX1_tie_5 : decode cX1_tie 5 = .ok (.aload_n 0, 1) := by decide +kernel
theorem dX1_tie_6 : decode cX1_tie 6 = .ok (.iload_n 2, 1) := by decide +kernel
theorem dX1_tie_7 : decode cX1_tie 7 = .ok (.putfield 18, 3) := by decide +kernel
theorem dX1_tie_10 : decode cX1_tie 10 = .ok (.aload_n 0, 1) := by decide +kernel
theorem dX1_tie_11 : decode cX1_tie 11 = .ok (.iload_n 3, 1) := by decide +kernel
theorem dX1_tie_12 : decode cX1_tie 12 = .ok (.putfield 21, 3) := by decide +kernel
theorem dX1_tie_15 : decode cX1_tie 15 = .ok (.return_, 1) := by decide +kernel
theorem dX1_hasFactors_0 : decode cX1_hasFactors 0 = .ok (.aload_n 0, 1) := by decide +kernel
theorem dX1_hasFactors_1 : decode cX1_hasFactors 1 = .ok (.getfield 9, 3) := by decide +kernel
theorem dX1_hasFactors_4 : decode cX1_hasFactors 4 = .ok (.ifCond .eq 29, 3) := by decide +kernel
theorem dX1_hasFactors_7 : decode cX1_hasFactors 7 = .ok (.aload_n 0, 1) := by decide +kernel
theorem dX1_hasFactors_8 : decode cX1_hasFactors 8 = .ok (.getfield 9, 3) := by decide +kernel
theorem dX1_hasFactors_11 : decode cX1_hasFactors 11 = .ok (.iconst 1, 1) := by decide +kernel
theorem dX1_hasFactors_12 : decode cX1_hasFactors 12 = .ok (.if_icmp .eq 21, 3) := by decide +kernel
theorem dX1_hasFactors_15 : decode cX1_hasFactors 15 = .ok (.aload_n 0, 1) := by decide +kernel
theorem dX1_hasFactors_16 : decode cX1_hasFactors 16 = .ok (.getfield 9, 3) := by decide +kernel
theorem dX1_hasFactors_19 : decode cX1_hasFactors 19 = .ok (.bipush 8, 2) := by decide +kernel
theorem dX1_hasFactors_21 : decode cX1_hasFactors 21 = .ok (.if_icmp .eq 12, 3) := by decide +kernel
theorem dX1_hasFactors_24 : decode cX1_hasFactors 24 = .ok (.aload_n 0, 1) := by decide +kernel
theorem dX1_hasFactors_25 : decode cX1_hasFactors 25 = .ok (.getfield 9, 3) := by decide +kernel
theorem dX1_hasFactors_28 : decode cX1_hasFactors 28 = .ok (.bipush 9, 2) := by decide +kernel
theorem dX1_hasFactors_30 : decode cX1_hasFactors 30 = .ok (.if_icmp .ne 7, 3) := by decide +kernel
theorem dX1_hasFactors_33 : decode cX1_hasFactors 33 = .ok (.iconst 1, 1) := by decide +kernel
theorem dX1_hasFactors_34 : decode cX1_hasFactors 34 = .ok (.goto 4, 3) := by decide +kernel
theorem dX1_hasFactors_37 : decode cX1_hasFactors 37 = .ok (.iconst 0, 1) := by decide +kernel
theorem dX1_hasFactors_38 : decode cX1_hasFactors 38 = .ok (.ireturn, 1) := by decide +kernel
theorem dX1_isAbout_0 : decode cX1_isAbout 0 = .ok (.iload_n 1, 1) := by decide +kernel
theorem dX1_isAbout_1 : decode cX1_isAbout 1 = .ok (.aload_n 0, 1) := by decide +kernel
theorem dX1_isAbout_2 : decode cX1_isAbout 2 = .ok (.getfield 15, 3) := by decide +kernel
theorem dX1_isAbout_5 : decode cX1_isAbout 5 = .ok (.if_icmp .eq 28, 3) := by decide +kernel
theorem dX1_isAbout_8 : decode cX1_isAbout 8 = .ok (.iload_n 1, 1) := by decide +kernel
theorem dX1_isAbout_9 : decode cX1_isAbout 9 = .ok (.aload_n 0, 1) := by decide +kernel
theorem dX1_isAbout_10 : decode cX1_isAbout 10 = .ok (.getfield 18, 3) := by decide +kernel
theorem dX1_isAbout_13 : decode cX1_isAbout 13 = .ok (.if_icmp .eq 20, 3) := by decide +kernel
theorem dX1_isAbout_16 : decode cX1_isAbout 16 = .ok (.iload_n 1, 1) := by decide +kernel
theorem dX1_isAbout_17 : decode cX1_isAbout 17 = .ok (.aload_n 0, 1) := by decide +kernel
theorem dX1_isAbout_18 : decode cX1_isAbout 18 = .ok (.getfield 21, 3) := by decide +kernel
theorem dX1_isAbout_21 : decode cX1_isAbout 21 = .ok (.if_icmp .eq 12, 3) := by decide +kernel
theorem dX1_isAbout_24 : decode cX1_isAbout 24 = .ok (.aload_n 0, 1) := by decide +kernel
theorem dX1_isAbout_25 : decode cX1_isAbout 25 = .ok (.getfield 27, 3) := by decide +kernel
theorem dX1_isAbout_28 : decode cX1_isAbout 28 = .ok (.iload_n 1, 1) := by decide +kernel
theorem dX1_isAbout_29 : decode cX1_isAbout 29 = .ok (.iaload, 1) := by decide +kernel
theorem dX1_isAbout_30 : decode cX1_isAbout 30 = .ok (.ifCond .eq 7, 3) := by decide +kernel
theorem dX1_isAbout_33 : decode cX1_isAbout 33 = .ok (.iconst 1, 1) := by decide +kernel
theorem dX1_isAbout_34 : decode cX1_isAbout 34 = .ok (.goto 4, 3) := by decide +kernel
theorem dX1_isAbout_37 : decode cX1_isAbout 37 = .ok (.iconst 0, 1) := by decide +kernel
theorem dX1_isAbout_38 : decode cX1_isAbout 38 = .ok (.ireturn, 1) := by decide +kernel
theorem dX1_lastName_0 : decode cX1_lastName 0 = .ok (.iconst (-1), 1) := by decide +kernel
theorem dX1_lastName_1 : decode cX1_lastName 1 = .ok (.istore_n 1, 1) := by decide +kernel
theorem dX1_lastName_2 : decode cX1_lastName 2 = .ok (.iconst 0, 1) := by decide +kernel
theorem dX1_lastName_3 : decode cX1_lastName 3 = .ok (.istore_n 2, 1) := by decide +kernel
theorem dX1_lastName_4 : decode cX1_lastName 4 = .ok (.iload_n 2, 1) := by decide +kernel
theorem dX1_lastName_5 : decode cX1_lastName 5 = .ok (.bipush 8, 2) := by decide +kernel
theorem dX1_lastName_7 : decode cX1_lastName 7 = .ok (.if_icmp .ge 19, 3) := by decide +kernel
theorem dX1_lastName_10 : decode cX1_lastName 10 = .ok (.aload_n 0, 1) := by decide +kernel
theorem dX1_lastName_11 : decode cX1_lastName 11 = .ok (.iload_n 2, 1) := by decide +kernel
theorem dX1_lastName_12 : decode cX1_lastName 12 = .ok (.invokevirtual 31, 3) := by decide +kernel
theorem dX1_lastName_15 : decode cX1_lastName 15 = .ok (.ifCond .eq 5, 3) := by decide +kernel
theorem dX1_lastName_18 : decode cX1_lastName 18 = .ok (.iload_n 2, 1) := by decide +kernel
theorem dX1_lastName_19 : decode cX1_lastName 19 = .ok (.istore_n 1, 1) := by decide +kernel
theorem dX1_lastName_20 : decode cX1_lastName 20 = .ok (.iinc 2 1, 3) := by decide +kernel
theorem dX1_lastName_23 : decode cX1_lastName 23 = .ok (.goto (-19), 3) := by decide +kernel
theorem dX1_lastName_26 : decode cX1_lastName 26 = .ok (.iload_n 1, 1) := by decide +kernel
theorem dX1_lastName_27 : decode cX1_lastName 27 = .ok (.ireturn, 1) := by decide +kernel
theorem dX1_holds_0 : decode cX1_holds 0 = .ok (.aload_n 0, 1) := by decide +kernel
theorem dX1_holds_1 : decode cX1_holds 1 = .ok (.getfield 9, 3) := by decide +kernel
theorem dX1_holds_4 : decode cX1_holds 4 = .ok (.tableswitch 293 0 8 #[52, 70, 88, 116, 155, 179, 209, 239, 265], 52) := by decide +kernel
theorem dX1_holds_56 : decode cX1_holds 56 = .ok (.aload_n 0, 1) := by decide +kernel
theorem dX1_holds_57 : decode cX1_holds 57 = .ok (.aload_n 1, 1) := by decide +kernel
theorem dX1_holds_58 : decode cX1_holds 58 = .ok (.invokevirtual 35, 3) := by decide +kernel
theorem dX1_holds_61 : decode cX1_holds 61 = .ok (.aload_n 0, 1) := by decide +kernel
theorem dX1_holds_62 : decode cX1_holds 62 = .ok (.getfield 24, 3) := by decide +kernel
theorem dX1_holds_65 : decode cX1_holds 65 = .ok (.if_icmp .gt 7, 3) := by decide +kernel
theorem dX1_holds_68 : decode cX1_holds 68 = .ok (.iconst 1, 1) := by decide +kernel
theorem dX1_holds_69 : decode cX1_holds 69 = .ok (.goto 4, 3) := by decide +kernel
theorem dX1_holds_72 : decode cX1_holds 72 = .ok (.iconst 0, 1) := by decide +kernel
theorem dX1_holds_73 : decode cX1_holds 73 = .ok (.ireturn, 1) := by decide +kernel
theorem dX1_holds_74 : decode cX1_holds 74 = .ok (.aload_n 0, 1) := by decide +kernel
theorem dX1_holds_75 : decode cX1_holds 75 = .ok (.aload_n 1, 1) := by decide +kernel
theorem dX1_holds_76 : decode cX1_holds 76 = .ok (.invokevirtual 35, 3) := by decide +kernel
theorem dX1_holds_79 : decode cX1_holds 79 = .ok (.aload_n 0, 1) := by decide +kernel
theorem dX1_holds_80 : decode cX1_holds 80 = .ok (.getfield 24, 3) := by decide +kernel
theorem dX1_holds_83 : decode cX1_holds 83 = .ok (.if_icmp .ne 7, 3) := by decide +kernel
theorem dX1_holds_86 : decode cX1_holds 86 = .ok (.iconst 1, 1) := by decide +kernel
theorem dX1_holds_87 : decode cX1_holds 87 = .ok (.goto 4, 3) := by decide +kernel
theorem dX1_holds_90 : decode cX1_holds 90 = .ok (.iconst 0, 1) := by decide +kernel
theorem dX1_holds_91 : decode cX1_holds 91 = .ok (.ireturn, 1) := by decide +kernel
theorem dX1_holds_92 : decode cX1_holds 92 = .ok (.aload_n 1, 1) := by decide +kernel
theorem dX1_holds_93 : decode cX1_holds 93 = .ok (.aload_n 0, 1) := by decide +kernel
theorem dX1_holds_94 : decode cX1_holds 94 = .ok (.getfield 15, 3) := by decide +kernel
theorem dX1_holds_97 : decode cX1_holds 97 = .ok (.iaload, 1) := by decide +kernel
theorem dX1_holds_98 : decode cX1_holds 98 = .ok (.aload_n 1, 1) := by decide +kernel
theorem dX1_holds_99 : decode cX1_holds 99 = .ok (.aload_n 0, 1) := by decide +kernel
theorem dX1_holds_100 : decode cX1_holds 100 = .ok (.getfield 18, 3) := by decide +kernel
theorem dX1_holds_103 : decode cX1_holds 103 = .ok (.iaload, 1) := by decide +kernel
theorem dX1_holds_104 : decode cX1_holds 104 = .ok (.aload_n 1, 1) := by decide +kernel
theorem dX1_holds_105 : decode cX1_holds 105 = .ok (.aload_n 0, 1) := by decide +kernel
theorem dX1_holds_106 : decode cX1_holds 106 = .ok (.getfield 21, 3) := by decide +kernel
theorem dX1_holds_109 : decode cX1_holds 109 = .ok (.iaload, 1) := by decide +kernel
theorem dX1_holds_110 : decode cX1_holds 110 = .ok (.imul, 1) := by decide +kernel
theorem dX1_holds_111 : decode cX1_holds 111 = .ok (.if_icmp .ne 7, 3) := by decide +kernel
theorem dX1_holds_114 : decode cX1_holds 114 = .ok (.iconst 1, 1) := by decide +kernel
theorem dX1_holds_115 : decode cX1_holds 115 = .ok (.goto 4, 3) := by decide +kernel
theorem dX1_holds_118 : decode cX1_holds 118 = .ok (.iconst 0, 1) := by decide +kernel
theorem dX1_holds_119 : decode cX1_holds 119 = .ok (.ireturn, 1) := by decide +kernel
theorem dX1_holds_120 : decode cX1_holds 120 = .ok (.aload_n 1, 1) := by decide +kernel
theorem dX1_holds_121 : decode cX1_holds 121 = .ok (.aload_n 0, 1) := by decide +kernel
theorem dX1_holds_122 : decode cX1_holds 122 = .ok (.getfield 21, 3) := by decide +kernel
theorem dX1_holds_125 : decode cX1_holds 125 = .ok (.iaload, 1) := by decide +kernel
theorem dX1_holds_126 : decode cX1_holds 126 = .ok (.ifCond .eq 31, 3) := by decide +kernel
theorem dX1_holds_129 : decode cX1_holds 129 = .ok (.aload_n 1, 1) := by decide +kernel
theorem dX1_holds_130 : decode cX1_holds 130 = .ok (.aload_n 0, 1) := by decide +kernel
theorem dX1_holds_131 : decode cX1_holds 131 = .ok (.getfield 15, 3) := by decide +kernel
theorem dX1_holds_134 : decode cX1_holds 134 = .ok (.iaload, 1) := by decide +kernel
theorem dX1_holds_135 : decode cX1_holds 135 = .ok (.aload_n 1, 1) := by decide +kernel
theorem dX1_holds_136 : decode cX1_holds 136 = .ok (.aload_n 0, 1) := by decide +kernel
theorem dX1_holds_137 : decode cX1_holds 137 = .ok (.getfield 18, 3) := by decide +kernel
theorem dX1_holds_140 : decode cX1_holds 140 = .ok (.iaload, 1) := by decide +kernel
theorem dX1_holds_141 : decode cX1_holds 141 = .ok (.aload_n 1, 1) := by decide +kernel
theorem dX1_holds_142 : decode cX1_holds 142 = .ok (.aload_n 0, 1) := by decide +kernel
theorem dX1_holds_143 : decode cX1_holds 143 = .ok (.getfield 21, 3) := by decide +kernel
theorem dX1_holds_146 : decode cX1_holds 146 = .ok (.iaload, 1) := by decide +kernel
theorem dX1_holds_147 : decode cX1_holds 147 = .ok (.invokestatic 39, 3) := by decide +kernel
theorem dX1_holds_150 : decode cX1_holds 150 = .ok (.if_icmp .ne 7, 3) := by decide +kernel
theorem dX1_holds_153 : decode cX1_holds 153 = .ok (.iconst 1, 1) := by decide +kernel
theorem dX1_holds_154 : decode cX1_holds 154 = .ok (.goto 4, 3) := by decide +kernel
theorem dX1_holds_157 : decode cX1_holds 157 = .ok (.iconst 0, 1) := by decide +kernel
theorem dX1_holds_158 : decode cX1_holds 158 = .ok (.ireturn, 1) := by decide +kernel
theorem dX1_holds_159 : decode cX1_holds 159 = .ok (.aload_n 1, 1) := by decide +kernel
theorem dX1_holds_160 : decode cX1_holds 160 = .ok (.aload_n 0, 1) := by decide +kernel
theorem dX1_holds_161 : decode cX1_holds 161 = .ok (.getfield 15, 3) := by decide +kernel
theorem dX1_holds_164 : decode cX1_holds 164 = .ok (.iaload, 1) := by decide +kernel
theorem dX1_holds_165 : decode cX1_holds 165 = .ok (.aload_n 1, 1) := by decide +kernel
theorem dX1_holds_166 : decode cX1_holds 166 = .ok (.aload_n 0, 1) := by decide +kernel
theorem dX1_holds_167 : decode cX1_holds 167 = .ok (.getfield 18, 3) := by decide +kernel
theorem dX1_holds_170 : decode cX1_holds 170 = .ok (.iaload, 1) := by decide +kernel
theorem dX1_holds_171 : decode cX1_holds 171 = .ok (.invokestatic 45, 3) := by decide +kernel
theorem dX1_holds_174 : decode cX1_holds 174 = .ok (.if_icmp .ne 7, 3) := by decide +kernel
theorem dX1_holds_177 : decode cX1_holds 177 = .ok (.iconst 1, 1) := by decide +kernel
theorem dX1_holds_178 : decode cX1_holds 178 = .ok (.goto 4, 3) := by decide +kernel
theorem dX1_holds_181 : decode cX1_holds 181 = .ok (.iconst 0, 1) := by decide +kernel
theorem dX1_holds_182 : decode cX1_holds 182 = .ok (.ireturn, 1) := by decide +kernel
theorem dX1_holds_183 : decode cX1_holds 183 = .ok (.aload_n 1, 1) := by decide +kernel
theorem dX1_holds_184 : decode cX1_holds 184 = .ok (.aload_n 0, 1) := by decide +kernel
theorem dX1_holds_185 : decode cX1_holds 185 = .ok (.getfield 15, 3) := by decide +kernel
theorem dX1_holds_188 : decode cX1_holds 188 = .ok (.iaload, 1) := by decide +kernel
theorem dX1_holds_189 : decode cX1_holds 189 = .ok (.aload_n 1, 1) := by decide +kernel
theorem dX1_holds_190 : decode cX1_holds 190 = .ok (.aload_n 0, 1) := by decide +kernel
theorem dX1_holds_191 : decode cX1_holds 191 = .ok (.getfield 18, 3) := by decide +kernel
theorem dX1_holds_194 : decode cX1_holds 194 = .ok (.iaload, 1) := by decide +kernel
theorem dX1_holds_195 : decode cX1_holds 195 = .ok (.aload_n 1, 1) := by decide +kernel
theorem dX1_holds_196 : decode cX1_holds 196 = .ok (.aload_n 0, 1) := by decide +kernel
theorem dX1_holds_197 : decode cX1_holds 197 = .ok (.getfield 21, 3) := by decide +kernel
theorem dX1_holds_200 : decode cX1_holds 200 = .ok (.iaload, 1) := by decide +kernel
theorem dX1_holds_201 : decode cX1_holds 201 = .ok (.invokestatic 49, 3) := by decide +kernel
theorem dX1_holds_204 : decode cX1_holds 204 = .ok (.if_icmp .ne 7, 3) := by decide +kernel
theorem dX1_holds_207 : decode cX1_holds 207 = .ok (.iconst 1, 1) := by decide +kernel
theorem dX1_holds_208 : decode cX1_holds 208 = .ok (.goto 4, 3) := by decide +kernel
theorem dX1_holds_211 : decode cX1_holds 211 = .ok (.iconst 0, 1) := by decide +kernel
theorem dX1_holds_212 : decode cX1_holds 212 = .ok (.ireturn, 1) := by decide +kernel
theorem dX1_holds_213 : decode cX1_holds 213 = .ok (.aload_n 1, 1) := by decide +kernel
theorem dX1_holds_214 : decode cX1_holds 214 = .ok (.aload_n 0, 1) := by decide +kernel
theorem dX1_holds_215 : decode cX1_holds 215 = .ok (.getfield 15, 3) := by decide +kernel
theorem dX1_holds_218 : decode cX1_holds 218 = .ok (.iaload, 1) := by decide +kernel
theorem dX1_holds_219 : decode cX1_holds 219 = .ok (.aload_n 1, 1) := by decide +kernel
theorem dX1_holds_220 : decode cX1_holds 220 = .ok (.aload_n 0, 1) := by decide +kernel
theorem dX1_holds_221 : decode cX1_holds 221 = .ok (.getfield 18, 3) := by decide +kernel
theorem dX1_holds_224 : decode cX1_holds 224 = .ok (.iaload, 1) := by decide +kernel
theorem dX1_holds_225 : decode cX1_holds 225 = .ok (.aload_n 1, 1) := by decide +kernel
theorem dX1_holds_226 : decode cX1_holds 226 = .ok (.aload_n 0, 1) := by decide +kernel
theorem dX1_holds_227 : decode cX1_holds 227 = .ok (.getfield 21, 3) := by decide +kernel
theorem dX1_holds_230 : decode cX1_holds 230 = .ok (.iaload, 1) := by decide +kernel
theorem dX1_holds_231 : decode cX1_holds 231 = .ok (.invokestatic 52, 3) := by decide +kernel
theorem dX1_holds_234 : decode cX1_holds 234 = .ok (.if_icmp .ne 7, 3) := by decide +kernel
theorem dX1_holds_237 : decode cX1_holds 237 = .ok (.iconst 1, 1) := by decide +kernel
theorem dX1_holds_238 : decode cX1_holds 238 = .ok (.goto 4, 3) := by decide +kernel
theorem dX1_holds_241 : decode cX1_holds 241 = .ok (.iconst 0, 1) := by decide +kernel
theorem dX1_holds_242 : decode cX1_holds 242 = .ok (.ireturn, 1) := by decide +kernel
theorem dX1_holds_243 : decode cX1_holds 243 = .ok (.aload_n 1, 1) := by decide +kernel
theorem dX1_holds_244 : decode cX1_holds 244 = .ok (.aload_n 0, 1) := by decide +kernel
theorem dX1_holds_245 : decode cX1_holds 245 = .ok (.getfield 15, 3) := by decide +kernel
theorem dX1_holds_248 : decode cX1_holds 248 = .ok (.iaload, 1) := by decide +kernel
theorem dX1_holds_249 : decode cX1_holds 249 = .ok (.aload_n 1, 1) := by decide +kernel
theorem dX1_holds_250 : decode cX1_holds 250 = .ok (.aload_n 0, 1) := by decide +kernel
theorem dX1_holds_251 : decode cX1_holds 251 = .ok (.getfield 18, 3) := by decide +kernel
theorem dX1_holds_254 : decode cX1_holds 254 = .ok (.iaload, 1) := by decide +kernel
theorem dX1_holds_255 : decode cX1_holds 255 = .ok (.aload_n 0, 1) := by decide +kernel
theorem dX1_holds_256 : decode cX1_holds 256 = .ok (.getfield 24, 3) := by decide +kernel
theorem dX1_holds_259 : decode cX1_holds 259 = .ok (.iadd, 1) := by decide +kernel
theorem dX1_holds_260 : decode cX1_holds 260 = .ok (.if_icmp .eq 7, 3) := by decide +kernel
theorem dX1_holds_263 : decode cX1_holds 263 = .ok (.iconst 1, 1) := by decide +kernel
theorem dX1_holds_264 : decode cX1_holds 264 = .ok (.goto 4, 3) := by decide +kernel
theorem dX1_holds_267 : decode cX1_holds 267 = .ok (.iconst 0, 1) := by decide +kernel
theorem dX1_holds_268 : decode cX1_holds 268 = .ok (.ireturn, 1) := by decide +kernel
theorem dX1_holds_269 : decode cX1_holds 269 = .ok (.aload_n 1, 1) := by decide +kernel
theorem dX1_holds_270 : decode cX1_holds 270 = .ok (.aload_n 0, 1) := by decide +kernel
theorem dX1_holds_271 : decode cX1_holds 271 = .ok (.getfield 15, 3) := by decide +kernel
theorem dX1_holds_274 : decode cX1_holds 274 = .ok (.iaload, 1) := by decide +kernel
theorem dX1_holds_275 : decode cX1_holds 275 = .ok (.iconst 1, 1) := by decide +kernel
theorem dX1_holds_276 : decode cX1_holds 276 = .ok (.if_icmp .ne 15, 3) := by decide +kernel
theorem dX1_holds_279 : decode cX1_holds 279 = .ok (.aload_n 0, 1) := by decide +kernel
theorem dX1_holds_280 : decode cX1_holds 280 = .ok (.aload_n 1, 1) := by decide +kernel
theorem dX1_holds_281 : decode cX1_holds 281 = .ok (.invokevirtual 35, 3) := by decide +kernel
theorem dX1_holds_284 : decode cX1_holds 284 = .ok (.aload_n 0, 1) := by decide +kernel
theorem dX1_holds_285 : decode cX1_holds 285 = .ok (.getfield 24, 3) := by decide +kernel
theorem dX1_holds_288 : decode cX1_holds 288 = .ok (.if_icmp .gt 7, 3) := by decide +kernel
theorem dX1_holds_291 : decode cX1_holds 291 = .ok (.iconst 1, 1) := by decide +kernel
theorem dX1_holds_292 : decode cX1_holds 292 = .ok (.goto 4, 3) := by decide +kernel
theorem dX1_holds_295 : decode cX1_holds 295 = .ok (.iconst 0, 1) := by decide +kernel
theorem dX1_holds_296 : decode cX1_holds 296 = .ok (.ireturn, 1) := by decide +kernel
theorem dX1_holds_297 : decode cX1_holds 297 = .ok (.aload_n 1, 1) := by decide +kernel
theorem dX1_holds_298 : decode cX1_holds 298 = .ok (.aload_n 0, 1) := by decide +kernel
theorem dX1_holds_299 : decode cX1_holds 299 = .ok (.getfield 15, 3) := by decide +kernel
theorem dX1_holds_302 : decode cX1_holds 302 = .ok (.iaload, 1) := by decide +kernel
theorem dX1_holds_303 : decode cX1_holds 303 = .ok (.aload_n 0, 1) := by decide +kernel
theorem dX1_holds_304 : decode cX1_holds 304 = .ok (.aload_n 1, 1) := by decide +kernel
theorem dX1_holds_305 : decode cX1_holds 305 = .ok (.invokevirtual 55, 3) := by decide +kernel
theorem dX1_holds_308 : decode cX1_holds 308 = .ok (.if_icmp .ne 7, 3) := by decide +kernel
theorem dX1_holds_311 : decode cX1_holds 311 = .ok (.iconst 1, 1) := by decide +kernel
theorem dX1_holds_312 : decode cX1_holds 312 = .ok (.goto 4, 3) := by decide +kernel
theorem dX1_holds_315 : decode cX1_holds 315 = .ok (.iconst 0, 1) := by decide +kernel
theorem dX1_holds_316 : decode cX1_holds 316 = .ok (.ireturn, 1) := by decide +kernel
theorem dX1_sumOf_0 : decode cX1_sumOf 0 = .ok (.iconst 0, 1) := by decide +kernel
theorem dX1_sumOf_1 : decode cX1_sumOf 1 = .ok (.istore_n 2, 1) := by decide +kernel
theorem dX1_sumOf_2 : decode cX1_sumOf 2 = .ok (.iconst 0, 1) := by decide +kernel
theorem dX1_sumOf_3 : decode cX1_sumOf 3 = .ok (.istore_n 3, 1) := by decide +kernel
theorem dX1_sumOf_4 : decode cX1_sumOf 4 = .ok (.iload_n 3, 1) := by decide +kernel
theorem dX1_sumOf_5 : decode cX1_sumOf 5 = .ok (.bipush 8, 2) := by decide +kernel
theorem dX1_sumOf_7 : decode cX1_sumOf 7 = .ok (.if_icmp .ge 22, 3) := by decide +kernel
theorem dX1_sumOf_10 : decode cX1_sumOf 10 = .ok (.iload_n 2, 1) := by decide +kernel
theorem dX1_sumOf_11 : decode cX1_sumOf 11 = .ok (.aload_n 0, 1) := by decide +kernel
theorem dX1_sumOf_12 : decode cX1_sumOf 12 = .ok (.getfield 27, 3) := by decide +kernel
theorem dX1_sumOf_15 : decode cX1_sumOf 15 = .ok (.iload_n 3, 1) := by decide +kernel
theorem dX1_sumOf_16 : decode cX1_sumOf 16 = .ok (.iaload, 1) := by decide +kernel
theorem dX1_sumOf_17 : decode cX1_sumOf 17 = .ok (.aload_n 1, 1) := by decide +kernel
theorem dX1_sumOf_18 : decode cX1_sumOf 18 = .ok (.iload_n 3, 1) := by decide +kernel
theorem dX1_sumOf_19 : decode cX1_sumOf 19 = .ok (.iaload, 1) := by decide +kernel
theorem dX1_sumOf_20 : decode cX1_sumOf 20 = .ok (.imul, 1) := by decide +kernel
theorem dX1_sumOf_21 : decode cX1_sumOf 21 = .ok (.iadd, 1) := by decide +kernel
theorem dX1_sumOf_22 : decode cX1_sumOf 22 = .ok (.istore_n 2, 1) := by decide +kernel
theorem dX1_sumOf_23 : decode cX1_sumOf 23 = .ok (.iinc 3 1, 3) := by decide +kernel
theorem dX1_sumOf_26 : decode cX1_sumOf 26 = .ok (.goto (-22), 3) := by decide +kernel
theorem dX1_sumOf_29 : decode cX1_sumOf 29 = .ok (.iload_n 2, 1) := by decide +kernel
theorem dX1_sumOf_30 : decode cX1_sumOf 30 = .ok (.ireturn, 1) := by decide +kernel
theorem dX1_countOf_0 : decode cX1_countOf 0 = .ok (.iconst 0, 1) := by decide +kernel
theorem dX1_countOf_1 : decode cX1_countOf 1 = .ok (.istore_n 2, 1) := by decide +kernel
theorem dX1_countOf_2 : decode cX1_countOf 2 = .ok (.iconst 0, 1) := by decide +kernel
theorem dX1_countOf_3 : decode cX1_countOf 3 = .ok (.istore_n 3, 1) := by decide +kernel
theorem dX1_countOf_4 : decode cX1_countOf 4 = .ok (.iload_n 3, 1) := by decide +kernel
theorem dX1_countOf_5 : decode cX1_countOf 5 = .ok (.bipush 8, 2) := by decide +kernel
theorem dX1_countOf_7 : decode cX1_countOf 7 = .ok (.if_icmp .ge 31, 3) := by decide +kernel
theorem dX1_countOf_10 : decode cX1_countOf 10 = .ok (.aload_n 0, 1) := by decide +kernel
theorem dX1_countOf_11 : decode cX1_countOf 11 = .ok (.getfield 27, 3) := by decide +kernel
theorem dX1_countOf_14 : decode cX1_countOf 14 = .ok (.iload_n 3, 1) := by decide +kernel
theorem dX1_countOf_15 : decode cX1_countOf 15 = .ok (.iaload, 1) := by decide +kernel
theorem dX1_countOf_16 : decode cX1_countOf 16 = .ok (.ifCond .eq 16, 3) := by decide +kernel
theorem dX1_countOf_19 : decode cX1_countOf 19 = .ok (.aload_n 1, 1) := by decide +kernel
theorem dX1_countOf_20 : decode cX1_countOf 20 = .ok (.iload_n 3, 1) := by decide +kernel
theorem dX1_countOf_21 : decode cX1_countOf 21 = .ok (.iaload, 1) := by decide +kernel
theorem dX1_countOf_22 : decode cX1_countOf 22 = .ok (.aload_n 0, 1) := by decide +kernel
theorem dX1_countOf_23 : decode cX1_countOf 23 = .ok (.getfield 24, 3) := by decide +kernel
theorem dX1_countOf_26 : decode cX1_countOf 26 = .ok (.if_icmp .ne 6, 3) := by decide +kernel
theorem dX1_countOf_29 : decode cX1_countOf 29 = .ok (.iinc 2 1, 3) := by decide +kernel
theorem dX1_countOf_32 : decode cX1_countOf 32 = .ok (.iinc 3 1, 3) := by decide +kernel
theorem dX1_countOf_35 : decode cX1_countOf 35 = .ok (.goto (-31), 3) := by decide +kernel
theorem dX1_countOf_38 : decode cX1_countOf 38 = .ok (.iload_n 2, 1) := by decide +kernel
theorem dX1_countOf_39 : decode cX1_countOf 39 = .ok (.ireturn, 1) := by decide +kernel
theorem dX1_allows_0 : decode cX1_allows 0 = .ok (.aload_n 0, 1) := by decide +kernel
theorem dX1_allows_1 : decode cX1_allows 1 = .ok (.getfield 27, 3) := by decide +kernel
theorem dX1_allows_4 : decode cX1_allows 4 = .ok (.iload_n 1, 1) := by decide +kernel
theorem dX1_allows_5 : decode cX1_allows 5 = .ok (.iaload, 1) := by decide +kernel
theorem dX1_allows_6 : decode cX1_allows 6 = .ok (.iload_n 2, 1) := by decide +kernel
theorem dX1_allows_7 : decode cX1_allows 7 = .ok (.imul, 1) := by decide +kernel
theorem dX1_allows_8 : decode cX1_allows 8 = .ok (.istore 6, 2) := by decide +kernel
theorem dX1_allows_10 : decode cX1_allows 10 = .ok (.aload_n 0, 1) := by decide +kernel
theorem dX1_allows_11 : decode cX1_allows 11 = .ok (.getfield 9, 3) := by decide +kernel
theorem dX1_allows_14 : decode cX1_allows 14 = .ok (.tableswitch 428 0 8 #[50, 68, 98, 141, 182, 240, 283, 326, 382], 50) := by decide +kernel
theorem dX1_allows_64 : decode cX1_allows 64 = .ok (.iload 6, 2) := by decide +kernel
theorem dX1_allows_66 : decode cX1_allows 66 = .ok (.iload 4, 2) := by decide +kernel
theorem dX1_allows_68 : decode cX1_allows 68 = .ok (.iadd, 1) := by decide +kernel
theorem dX1_allows_69 : decode cX1_allows 69 = .ok (.aload_n 0, 1) := by decide +kernel
theorem dX1_allows_70 : decode cX1_allows 70 = .ok (.getfield 24, 3) := by decide +kernel
theorem dX1_allows_73 : decode cX1_allows 73 = .ok (.if_icmp .gt 7, 3) := by decide +kernel
theorem dX1_allows_76 : decode cX1_allows 76 = .ok (.iconst 1, 1) := by decide +kernel
theorem dX1_allows_77 : decode cX1_allows 77 = .ok (.goto 4, 3) := by decide +kernel
theorem dX1_allows_80 : decode cX1_allows 80 = .ok (.iconst 0, 1) := by decide +kernel
theorem dX1_allows_81 : decode cX1_allows 81 = .ok (.ireturn, 1) := by decide +kernel
theorem dX1_allows_82 : decode cX1_allows 82 = .ok (.iload 6, 2) := by decide +kernel
theorem dX1_allows_84 : decode cX1_allows 84 = .ok (.iload 4, 2) := by decide +kernel
theorem dX1_allows_86 : decode cX1_allows 86 = .ok (.iadd, 1) := by decide +kernel
theorem dX1_allows_87 : decode cX1_allows 87 = .ok (.aload_n 0, 1) := by decide +kernel
theorem dX1_allows_88 : decode cX1_allows 88 = .ok (.getfield 24, 3) := by decide +kernel
theorem dX1_allows_91 : decode cX1_allows 91 = .ok (.if_icmp .gt 19, 3) := by decide +kernel
theorem dX1_allows_94 : decode cX1_allows 94 = .ok (.iload 6, 2) := by decide +kernel
theorem dX1_allows_96 : decode cX1_allows 96 = .ok (.iload 5, 2) := by decide +kernel
theorem dX1_allows_98 : decode cX1_allows 98 = .ok (.iadd, 1) := by decide +kernel
theorem dX1_allows_99 : decode cX1_allows 99 = .ok (.aload_n 0, 1) := by decide +kernel
theorem dX1_allows_100 : decode cX1_allows 100 = .ok (.getfield 24, 3) := by decide +kernel
theorem dX1_allows_103 : decode cX1_allows 103 = .ok (.if_icmp .lt 7, 3) := by decide +kernel
theorem dX1_allows_106 : decode cX1_allows 106 = .ok (.iconst 1, 1) := by decide +kernel
theorem dX1_allows_107 : decode cX1_allows 107 = .ok (.goto 4, 3) := by decide +kernel
theorem dX1_allows_110 : decode cX1_allows 110 = .ok (.iconst 0, 1) := by decide +kernel
theorem dX1_allows_111 : decode cX1_allows 111 = .ok (.ireturn, 1) := by decide +kernel
theorem dX1_allows_112 : decode cX1_allows 112 = .ok (.iload_n 1, 1) := by decide +kernel
theorem dX1_allows_113 : decode cX1_allows 113 = .ok (.aload_n 0, 1) := by decide +kernel
theorem dX1_allows_114 : decode cX1_allows 114 = .ok (.getfield 15, 3) := by decide +kernel
theorem dX1_allows_117 : decode cX1_allows 117 = .ok (.if_icmp .ne 12, 3) := by decide +kernel
theorem dX1_allows_120 : decode cX1_allows 120 = .ok (.aload_n 0, 1) := by decide +kernel
theorem dX1_allows_121 : decode cX1_allows 121 = .ok (.iload_n 2, 1) := by decide +kernel
theorem dX1_allows_122 : decode cX1_allows 122 = .ok (.aload_n 3, 1) := by decide +kernel
theorem dX1_allows_123 : decode cX1_allows 123 = .ok (.invokevirtual 58, 3) := by decide +kernel
theorem dX1_allows_126 : decode cX1_allows 126 = .ok (.goto 28, 3) := by decide +kernel
theorem dX1_allows_129 : decode cX1_allows 129 = .ok (.aload_n 0, 1) := by decide +kernel
theorem dX1_allows_130 : decode cX1_allows 130 = .ok (.iload_n 2, 1) := by decide +kernel
theorem dX1_allows_131 : decode cX1_allows 131 = .ok (.iload_n 1, 1) := by decide +kernel
theorem dX1_allows_132 : decode cX1_allows 132 = .ok (.aload_n 0, 1) := by decide +kernel
theorem dX1_allows_133 : decode cX1_allows 133 = .ok (.getfield 18, 3) := by decide +kernel
theorem dX1_allows_136 : decode cX1_allows 136 = .ok (.if_icmp .ne 10, 3) := by decide +kernel
theorem dX1_allows_139 : decode cX1_allows 139 = .ok (.aload_n 0, 1) := by decide +kernel
theorem dX1_allows_140 : decode cX1_allows 140 = .ok (.getfield 21, 3) := by decide +kernel
theorem dX1_allows_143 : decode cX1_allows 143 = .ok (.goto 7, 3) := by decide +kernel
theorem dX1_allows_146 : decode cX1_allows 146 = .ok (.aload_n 0, 1) := by decide +kernel
theorem dX1_allows_147 : decode cX1_allows 147 = .ok (.getfield 18, 3) := by decide +kernel
theorem dX1_allows_150 : decode cX1_allows 150 = .ok (.aload_n 3, 1) := by decide +kernel
theorem dX1_allows_151 : decode cX1_allows 151 = .ok (.invokevirtual 62, 3) := by decide +kernel
theorem dX1_allows_154 : decode cX1_allows 154 = .ok (.ireturn, 1) := by decide +kernel
theorem dX1_allows_155 : decode cX1_allows 155 = .ok (.iload_n 1, 1) := by decide +kernel
theorem dX1_allows_156 : decode cX1_allows 156 = .ok (.aload_n 0, 1) := by decide +kernel
theorem dX1_allows_157 : decode cX1_allows 157 = .ok (.getfield 15, 3) := by decide +kernel
theorem dX1_allows_160 : decode cX1_allows 160 = .ok (.if_icmp .ne 12, 3) := by decide +kernel
theorem dX1_allows_163 : decode cX1_allows 163 = .ok (.aload_n 0, 1) := by decide +kernel
theorem dX1_allows_164 : decode cX1_allows 164 = .ok (.iload_n 2, 1) := by decide +kernel
theorem dX1_allows_165 : decode cX1_allows 165 = .ok (.aload_n 3, 1) := by decide +kernel
theorem dX1_allows_166 : decode cX1_allows 166 = .ok (.invokevirtual 66, 3) := by decide +kernel
theorem dX1_allows_169 : decode cX1_allows 169 = .ok (.goto 26, 3) := by decide +kernel
theorem dX1_allows_172 : decode cX1_allows 172 = .ok (.iload_n 1, 1) := by decide +kernel
theorem dX1_allows_173 : decode cX1_allows 173 = .ok (.aload_n 0, 1) := by decide +kernel
theorem dX1_allows_174 : decode cX1_allows 174 = .ok (.getfield 18, 3) := by decide +kernel
theorem dX1_allows_177 : decode cX1_allows 177 = .ok (.if_icmp .ne 12, 3) := by decide +kernel
theorem dX1_allows_180 : decode cX1_allows 180 = .ok (.aload_n 0, 1) := by decide +kernel
theorem dX1_allows_181 : decode cX1_allows 181 = .ok (.iload_n 2, 1) := by decide +kernel
theorem dX1_allows_182 : decode cX1_allows 182 = .ok (.aload_n 3, 1) := by decide +kernel
theorem dX1_allows_183 : decode cX1_allows 183 = .ok (.invokevirtual 69, 3) := by decide +kernel
theorem dX1_allows_186 : decode cX1_allows 186 = .ok (.goto 9, 3) := by decide +kernel
theorem dX1_allows_189 : decode cX1_allows 189 = .ok (.aload_n 0, 1) := by decide +kernel
theorem dX1_allows_190 : decode cX1_allows 190 = .ok (.iload_n 2, 1) := by decide +kernel
theorem dX1_allows_191 : decode cX1_allows 191 = .ok (.aload_n 3, 1) := by decide +kernel
theorem dX1_allows_192 : decode cX1_allows 192 = .ok (.invokevirtual 72, 3) := by decide +kernel
theorem dX1_allows_195 : decode cX1_allows 195 = .ok (.ireturn, 1) := by decide +kernel
theorem dX1_allows_196 : decode cX1_allows 196 = .ok (.iload_n 1, 1) := by decide +kernel
theorem dX1_allows_197 : decode cX1_allows 197 = .ok (.aload_n 0, 1) := by decide +kernel
theorem dX1_allows_198 : decode cX1_allows 198 = .ok (.getfield 15, 3) := by decide +kernel
theorem dX1_allows_201 : decode cX1_allows 201 = .ok (.if_icmp .ne 40, 3) := by decide +kernel
theorem dX1_allows_204 : decode cX1_allows 204 = .ok (.iload_n 2, 1) := by decide +kernel
theorem dX1_allows_205 : decode cX1_allows 205 = .ok (.ifCond .lt 32, 3) := by decide +kernel
theorem dX1_allows_208 : decode cX1_allows 208 = .ok (.aload_n 3, 1) := by decide +kernel
theorem dX1_allows_209 : decode cX1_allows 209 = .ok (.aload_n 0, 1) := by decide +kernel
theorem dX1_allows_210 : decode cX1_allows 210 = .ok (.getfield 18, 3) := by decide +kernel
theorem dX1_allows_213 : decode cX1_allows 213 = .ok (.iload_n 2, 1) := by decide +kernel
theorem dX1_allows_214 : decode cX1_allows 214 = .ok (.invokevirtual 75, 3) := by decide +kernel
theorem dX1_allows_217 : decode cX1_allows 217 = .ok (.ifCond .ne 16, 3) := by decide +kernel
theorem dX1_allows_220 : decode cX1_allows 220 = .ok (.aload_n 3, 1) := by decide +kernel
theorem dX1_allows_221 : decode cX1_allows 221 = .ok (.aload_n 0, 1) := by decide +kernel
theorem dX1_allows_222 : decode cX1_allows 222 = .ok (.getfield 18, 3) := by decide +kernel
theorem dX1_allows_225 : decode cX1_allows 225 = .ok (.iload_n 2, 1) := by decide +kernel
theorem dX1_allows_226 : decode cX1_allows 226 = .ok (.ineg, 1) := by decide +kernel
theorem dX1_allows_227 : decode cX1_allows 227 = .ok (.invokevirtual 75, 3) := by decide +kernel
theorem dX1_allows_230 : decode cX1_allows 230 = .ok (.ifCond .eq 7, 3) := by decide +kernel
theorem dX1_allows_233 : decode cX1_allows 233 = .ok (.iconst 1, 1) := by decide +kernel
theorem dX1_allows_234 : decode cX1_allows 234 = .ok (.goto 19, 3) := by decide +kernel
theorem dX1_allows_237 : decode cX1_allows 237 = .ok (.iconst 0, 1) := by decide +kernel
theorem dX1_allows_238 : decode cX1_allows 238 = .ok (.goto 15, 3) := by decide +kernel
theorem dX1_allows_241 : decode cX1_allows 241 = .ok (.aload_n 3, 1) := by decide +kernel
theorem dX1_allows_242 : decode cX1_allows 242 = .ok (.aload_n 0, 1) := by decide +kernel
theorem dX1_allows_243 : decode cX1_allows 243 = .ok (.getfield 15, 3) := by decide +kernel
theorem dX1_allows_246 : decode cX1_allows 246 = .ok (.iload_n 2, 1) := by decide +kernel
theorem dX1_allows_247 : decode cX1_allows 247 = .ok (.invokestatic 45, 3) := by decide +kernel
theorem dX1_allows_250 : decode cX1_allows 250 = .ok (.invokevirtual 75, 3) := by decide +kernel
theorem dX1_allows_253 : decode cX1_allows 253 = .ok (.ireturn, 1) := by decide +kernel
theorem dX1_allows_254 : decode cX1_allows 254 = .ok (.iload_n 1, 1) := by decide +kernel
theorem dX1_allows_255 : decode cX1_allows 255 = .ok (.aload_n 0, 1) := by decide +kernel
theorem dX1_allows_256 : decode cX1_allows 256 = .ok (.getfield 15, 3) := by decide +kernel
theorem dX1_allows_259 : decode cX1_allows 259 = .ok (.if_icmp .ne 12, 3) := by decide +kernel
theorem dX1_allows_262 : decode cX1_allows 262 = .ok (.aload_n 0, 1) := by decide +kernel
theorem dX1_allows_263 : decode cX1_allows 263 = .ok (.iload_n 2, 1) := by decide +kernel
theorem dX1_allows_264 : decode cX1_allows 264 = .ok (.aload_n 3, 1) := by decide +kernel
theorem dX1_allows_265 : decode cX1_allows 265 = .ok (.invokevirtual 81, 3) := by decide +kernel
theorem dX1_allows_268 : decode cX1_allows 268 = .ok (.goto 28, 3) := by decide +kernel
theorem dX1_allows_271 : decode cX1_allows 271 = .ok (.aload_n 0, 1) := by decide +kernel
theorem dX1_allows_272 : decode cX1_allows 272 = .ok (.iload_n 2, 1) := by decide +kernel
theorem dX1_allows_273 : decode cX1_allows 273 = .ok (.iload_n 1, 1) := by decide +kernel
theorem dX1_allows_274 : decode cX1_allows 274 = .ok (.aload_n 0, 1) := by decide +kernel
theorem dX1_allows_275 : decode cX1_allows 275 = .ok (.getfield 18, 3) := by decide +kernel
theorem dX1_allows_278 : decode cX1_allows 278 = .ok (.if_icmp .ne 10, 3) := by decide +kernel
theorem dX1_allows_281 : decode cX1_allows 281 = .ok (.aload_n 0, 1) := by decide +kernel
theorem dX1_allows_282 : decode cX1_allows 282 = .ok (.getfield 21, 3) := by decide +kernel
theorem dX1_allows_285 : decode cX1_allows 285 = .ok (.goto 7, 3) := by decide +kernel
theorem dX1_allows_288 : decode cX1_allows 288 = .ok (.aload_n 0, 1) := by decide +kernel
theorem dX1_allows_289 : decode cX1_allows 289 = .ok (.getfield 18, 3) := by decide +kernel
theorem dX1_allows_292 : decode cX1_allows 292 = .ok (.aload_n 3, 1) := by decide +kernel
theorem dX1_allows_293 : decode cX1_allows 293 = .ok (.invokevirtual 84, 3) := by decide +kernel
theorem dX1_allows_296 : decode cX1_allows 296 = .ok (.ireturn, 1) := by decide +kernel
theorem dX1_allows_297 : decode cX1_allows 297 = .ok (.iload_n 1, 1) := by decide +kernel
theorem dX1_allows_298 : decode cX1_allows 298 = .ok (.aload_n 0, 1) := by decide +kernel
theorem dX1_allows_299 : decode cX1_allows 299 = .ok (.getfield 15, 3) := by decide +kernel
theorem dX1_allows_302 : decode cX1_allows 302 = .ok (.if_icmp .ne 12, 3) := by decide +kernel
theorem dX1_allows_305 : decode cX1_allows 305 = .ok (.aload_n 0, 1) := by decide +kernel
theorem dX1_allows_306 : decode cX1_allows 306 = .ok (.iload_n 2, 1) := by decide +kernel
theorem dX1_allows_307 : decode cX1_allows 307 = .ok (.aload_n 3, 1) := by decide +kernel
theorem dX1_allows_308 : decode cX1_allows 308 = .ok (.invokevirtual 87, 3) := by decide +kernel
theorem dX1_allows_311 : decode cX1_allows 311 = .ok (.goto 28, 3) := by decide +kernel
theorem dX1_allows_314 : decode cX1_allows 314 = .ok (.aload_n 0, 1) := by decide +kernel
theorem dX1_allows_315 : decode cX1_allows 315 = .ok (.iload_n 2, 1) := by decide +kernel
theorem dX1_allows_316 : decode cX1_allows 316 = .ok (.iload_n 1, 1) := by decide +kernel
theorem dX1_allows_317 : decode cX1_allows 317 = .ok (.aload_n 0, 1) := by decide +kernel
theorem dX1_allows_318 : decode cX1_allows 318 = .ok (.getfield 18, 3) := by decide +kernel
theorem dX1_allows_321 : decode cX1_allows 321 = .ok (.if_icmp .ne 10, 3) := by decide +kernel
theorem dX1_allows_324 : decode cX1_allows 324 = .ok (.aload_n 0, 1) := by decide +kernel
theorem dX1_allows_325 : decode cX1_allows 325 = .ok (.getfield 21, 3) := by decide +kernel
theorem dX1_allows_328 : decode cX1_allows 328 = .ok (.goto 7, 3) := by decide +kernel
theorem dX1_allows_331 : decode cX1_allows 331 = .ok (.aload_n 0, 1) := by decide +kernel
theorem dX1_allows_332 : decode cX1_allows 332 = .ok (.getfield 18, 3) := by decide +kernel
theorem dX1_allows_335 : decode cX1_allows 335 = .ok (.aload_n 3, 1) := by decide +kernel
theorem dX1_allows_336 : decode cX1_allows 336 = .ok (.invokevirtual 90, 3) := by decide +kernel
theorem dX1_allows_339 : decode cX1_allows 339 = .ok (.ireturn, 1) := by decide +kernel
theorem dX1_allows_340 : decode cX1_allows 340 = .ok (.iload_n 1, 1) := by decide +kernel
theorem dX1_allows_341 : decode cX1_allows 341 = .ok (.aload_n 0, 1) := by decide +kernel
theorem dX1_allows_342 : decode cX1_allows 342 = .ok (.getfield 15, 3) := by decide +kernel
theorem dX1_allows_345 : decode cX1_allows 345 = .ok (.if_icmp .ne 28, 3) := by decide +kernel
theorem dX1_allows_348 : decode cX1_allows 348 = .ok (.aload_n 3, 1) := by decide +kernel
theorem dX1_allows_349 : decode cX1_allows 349 = .ok (.aload_n 0, 1) := by decide +kernel
theorem dX1_allows_350 : decode cX1_allows 350 = .ok (.getfield 18, 3) := by decide +kernel
theorem dX1_allows_353 : decode cX1_allows 353 = .ok (.iload_n 2, 1) := by decide +kernel
theorem dX1_allows_354 : decode cX1_allows 354 = .ok (.aload_n 0, 1) := by decide +kernel
theorem dX1_allows_355 : decode cX1_allows 355 = .ok (.getfield 24, 3) := by decide +kernel
theorem dX1_allows_358 : decode cX1_allows 358 = .ok (.isub, 1) := by decide +kernel
theorem dX1_allows_359 : decode cX1_allows 359 = .ok (.invokevirtual 93, 3) := by decide +kernel
theorem dX1_allows_362 : decode cX1_allows 362 = .ok (.ifCond .ne 7, 3) := by decide +kernel
theorem dX1_allows_365 : decode cX1_allows 365 = .ok (.iconst 1, 1) := by decide +kernel
theorem dX1_allows_366 : decode cX1_allows 366 = .ok (.goto 29, 3) := by decide +kernel
theorem dX1_allows_369 : decode cX1_allows 369 = .ok (.iconst 0, 1) := by decide +kernel
theorem dX1_allows_370 : decode cX1_allows 370 = .ok (.goto 25, 3) := by decide +kernel
theorem dX1_allows_373 : decode cX1_allows 373 = .ok (.aload_n 3, 1) := by decide +kernel
theorem dX1_allows_374 : decode cX1_allows 374 = .ok (.aload_n 0, 1) := by decide +kernel
theorem dX1_allows_375 : decode cX1_allows 375 = .ok (.getfield 15, 3) := by decide +kernel
theorem dX1_allows_378 : decode cX1_allows 378 = .ok (.iload_n 2, 1) := by decide +kernel
theorem dX1_allows_379 : decode cX1_allows 379 = .ok (.aload_n 0, 1) := by decide +kernel
theorem dX1_allows_380 : decode cX1_allows 380 = .ok (.getfield 24, 3) := by decide +kernel
theorem dX1_allows_383 : decode cX1_allows 383 = .ok (.iadd, 1) := by decide +kernel
theorem dX1_allows_384 : decode cX1_allows 384 = .ok (.invokevirtual 93, 3) := by decide +kernel
theorem dX1_allows_387 : decode cX1_allows 387 = .ok (.ifCond .ne 7, 3) := by decide +kernel
theorem dX1_allows_390 : decode cX1_allows 390 = .ok (.iconst 1, 1) := by decide +kernel
theorem dX1_allows_391 : decode cX1_allows 391 = .ok (.goto 4, 3) := by decide +kernel
theorem dX1_allows_394 : decode cX1_allows 394 = .ok (.iconst 0, 1) := by decide +kernel
theorem dX1_allows_395 : decode cX1_allows 395 = .ok (.ireturn, 1) := by decide +kernel
theorem dX1_allows_396 : decode cX1_allows 396 = .ok (.iload_n 1, 1) := by decide +kernel
theorem dX1_allows_397 : decode cX1_allows 397 = .ok (.aload_n 0, 1) := by decide +kernel
theorem dX1_allows_398 : decode cX1_allows 398 = .ok (.getfield 15, 3) := by decide +kernel
theorem dX1_allows_401 : decode cX1_allows 401 = .ok (.if_icmp .ne 11, 3) := by decide +kernel
theorem dX1_allows_404 : decode cX1_allows 404 = .ok (.iload_n 2, 1) := by decide +kernel
theorem dX1_allows_405 : decode cX1_allows 405 = .ok (.iconst 1, 1) := by decide +kernel
theorem dX1_allows_406 : decode cX1_allows 406 = .ok (.if_icmp .eq 18, 3) := by decide +kernel
theorem dX1_allows_409 : decode cX1_allows 409 = .ok (.goto 27, 3) := by decide +kernel
theorem dX1_allows_412 : decode cX1_allows 412 = .ok (.aload_n 3, 1) := by decide +kernel
theorem dX1_allows_413 : decode cX1_allows 413 = .ok (.aload_n 0, 1) := by decide +kernel
theorem dX1_allows_414 : decode cX1_allows 414 = .ok (.getfield 15, 3) := by decide +kernel
theorem dX1_allows_417 : decode cX1_allows 417 = .ok (.iconst 1, 1) := by decide +kernel
theorem dX1_allows_418 : decode cX1_allows 418 = .ok (.invokevirtual 93, 3) := by decide +kernel
theorem dX1_allows_421 : decode cX1_allows 421 = .ok (.ifCond .eq 15, 3) := by decide +kernel
theorem dX1_allows_424 : decode cX1_allows 424 = .ok (.iload 6, 2) := by decide +kernel
theorem dX1_allows_426 : decode cX1_allows 426 = .ok (.iload 4, 2) := by decide +kernel
theorem dX1_allows_428 : decode cX1_allows 428 = .ok (.iadd, 1) := by decide +kernel
theorem dX1_allows_429 : decode cX1_allows 429 = .ok (.aload_n 0, 1) := by decide +kernel
theorem dX1_allows_430 : decode cX1_allows 430 = .ok (.getfield 24, 3) := by decide +kernel
theorem dX1_allows_433 : decode cX1_allows 433 = .ok (.if_icmp .gt 7, 3) := by decide +kernel
theorem dX1_allows_436 : decode cX1_allows 436 = .ok (.iconst 1, 1) := by decide +kernel
theorem dX1_allows_437 : decode cX1_allows 437 = .ok (.goto 4, 3) := by decide +kernel
theorem dX1_allows_440 : decode cX1_allows 440 = .ok (.iconst 0, 1) := by decide +kernel
theorem dX1_allows_441 : decode cX1_allows 441 = .ok (.ireturn, 1) := by decide +kernel
theorem dX1_allows_442 : decode cX1_allows 442 = .ok (.aload_n 0, 1) := by decide +kernel
theorem dX1_allows_443 : decode cX1_allows 443 = .ok (.iload_n 1, 1) := by decide +kernel
theorem dX1_allows_444 : decode cX1_allows 444 = .ok (.iload_n 2, 1) := by decide +kernel
theorem dX1_allows_445 : decode cX1_allows 445 = .ok (.aload_n 3, 1) := by decide +kernel
theorem dX1_allows_446 : decode cX1_allows 446 = .ok (.iload 4, 2) := by decide +kernel
theorem dX1_allows_448 : decode cX1_allows 448 = .ok (.iload 5, 2) := by decide +kernel
theorem dX1_allows_450 : decode cX1_allows 450 = .ok (.invokevirtual 96, 3) := by decide +kernel
theorem dX1_allows_453 : decode cX1_allows 453 = .ok (.ireturn, 1) := by decide +kernel
