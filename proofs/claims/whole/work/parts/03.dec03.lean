theorem dX7_run_0 : decode cX7_run 0 = .ok (.iload_n 1, 1) := by decide +kernel
theorem dX7_run_1 : decode cX7_run 1 = .ok (.ifCond .lt 20, 3) := by decide +kernel
theorem dX7_run_4 : decode cX7_run 4 = .ok (.iload_n 1, 1) := by decide +kernel
theorem dX7_run_5 : decode cX7_run 5 = .ok (.iconst 1, 1) := by decide +kernel
theorem dX7_run_6 : decode cX7_run 6 = .ok (.if_icmp .gt 15, 3) := by decide +kernel
theorem dX7_run_9 : decode cX7_run 9 = .ok (.iload_n 2, 1) := by decide +kernel
theorem dX7_run_10 : decode cX7_run 10 = .ok (.iconst 1, 1) := by decide +kernel
theorem dX7_run_11 : decode cX7_run 11 = .ok (.if_icmp .lt 10, 3) := by decide +kernel
theorem dX7_run_14 : decode cX7_run 14 = .ok (.iload_n 2, 1) := by decide +kernel
theorem dX7_run_15 : decode cX7_run 15 = .ok (.sipush 200, 3) := by decide +kernel
theorem dX7_run_18 : decode cX7_run 18 = .ok (.if_icmp .le 7, 3) := by decide +kernel
theorem dX7_run_21 : decode cX7_run 21 = .ok (.sipush (-1001), 3) := by decide +kernel
theorem dX7_run_24 : decode cX7_run 24 = .ok (.ireturn, 1) := by decide +kernel
theorem dX7_run_25 : decode cX7_run 25 = .ok (.iconst 0, 1) := by decide +kernel
theorem dX7_run_26 : decode cX7_run 26 = .ok (.istore_n 3, 1) := by decide +kernel
theorem dX7_run_27 : decode cX7_run 27 = .ok (.iconst 0, 1) := by decide +kernel
theorem dX7_run_28 : decode cX7_run 28 = .ok (.istore 4, 2) := by decide +kernel
theorem dX7_run_30 : decode cX7_run 30 = .ok (.iload_n 3, 1) := by decide +kernel
theorem dX7_run_31 : decode cX7_run 31 = .ok (.iload_n 2, 1) := by decide +kernel
theorem dX7_run_32 : decode cX7_run 32 = .ok (.if_icmp .ge 72, 3) := by decide +kernel
theorem dX7_run_35 : decode cX7_run 35 = .ok (.iload 4, 2) := by decide +kernel
theorem dX7_run_37 : decode cX7_run 37 = .ok (.ifCond .ne 67, 3) := by decide +kernel
theorem dX7_run_40 : decode cX7_run 40 = .ok (.aload_n 0, 1) := by decide +kernel
theorem dX7_run_41 : decode cX7_run 41 = .ok (.getfield 35, 3) := by decide +kernel
theorem dX7_run_44 : decode cX7_run 44 = .ok (.getfield 116, 3) := by decide +kernel
theorem dX7_run_47 : decode cX7_run 47 = .ok (.sipush (-1000), 3) := by decide +kernel
theorem dX7_run_50 : decode cX7_run 50 = .ok (.if_icmp .ne 54, 3) := by decide +kernel
theorem dX7_run_53 : decode cX7_run 53 = .ok (.aload_n 0, 1) := by decide +kernel
theorem dX7_run_54 : decode cX7_run 54 = .ok (.getfield 26, 3) := by decide +kernel
theorem dX7_run_57 : decode cX7_run 57 = .ok (.getfield 119, 3) := by decide +kernel
theorem dX7_run_60 : decode cX7_run 60 = .ok (.istore 5, 2) := by decide +kernel
theorem dX7_run_62 : decode cX7_run 62 = .ok (.aload_n 0, 1) := by decide +kernel
theorem dX7_run_63 : decode cX7_run 63 = .ok (.getfield 35, 3) := by decide +kernel
theorem dX7_run_66 : decode cX7_run 66 = .ok (.iload_n 1, 1) := by decide +kernel
theorem dX7_run_67 : decode cX7_run 67 = .ok (.iconst 1, 1) := by decide +kernel
theorem dX7_run_68 : decode cX7_run 68 = .ok (.if_icmp .ne 7, 3) := by decide +kernel
theorem dX7_run_71 : decode cX7_run 71 = .ok (.iconst 1, 1) := by decide +kernel
theorem dX7_run_72 : decode cX7_run 72 = .ok (.goto 4, 3) := by decide +kernel
theorem dX7_run_75 : decode cX7_run 75 = .ok (.iconst 0, 1) := by decide +kernel
theorem dX7_run_76 : decode cX7_run 76 = .ok (.invokevirtual 120, 3) := by decide +kernel
theorem dX7_run_79 : decode cX7_run 79 = .ok (.aload_n 0, 1) := by decide +kernel
theorem dX7_run_80 : decode cX7_run 80 = .ok (.getfield 26, 3) := by decide +kernel
theorem dX7_run_83 : decode cX7_run 83 = .ok (.getfield 119, 3) := by decide +kernel
theorem dX7_run_86 : decode cX7_run 86 = .ok (.iload 5, 2) := by decide +kernel
theorem dX7_run_88 : decode cX7_run 88 = .ok (.if_icmp .ne 7, 3) := by decide +kernel
theorem dX7_run_91 : decode cX7_run 91 = .ok (.iconst 1, 1) := by decide +kernel
theorem dX7_run_92 : decode cX7_run 92 = .ok (.goto 4, 3) := by decide +kernel
theorem dX7_run_95 : decode cX7_run 95 = .ok (.iconst 0, 1) := by decide +kernel
theorem dX7_run_96 : decode cX7_run 96 = .ok (.istore 4, 2) := by decide +kernel
theorem dX7_run_98 : decode cX7_run 98 = .ok (.iinc 3 1, 3) := by decide +kernel
theorem dX7_run_101 : decode cX7_run 101 = .ok (.goto (-71), 3) := by decide +kernel
theorem dX7_run_104 : decode cX7_run 104 = .ok (.aload_n 0, 1) := by decide +kernel
theorem dX7_run_105 : decode cX7_run 105 = .ok (.getfield 35, 3) := by decide +kernel
theorem dX7_run_108 : decode cX7_run 108 = .ok (.getfield 116, 3) := by decide +kernel
theorem dX7_run_111 : decode cX7_run 111 = .ok (.sipush (-1000), 3) := by decide +kernel
theorem dX7_run_114 : decode cX7_run 114 = .ok (.if_icmp .ne 7, 3) := by decide +kernel
theorem dX7_run_117 : decode cX7_run 117 = .ok (.iload_n 3, 1) := by decide +kernel
theorem dX7_run_118 : decode cX7_run 118 = .ok (.goto 4, 3) := by decide +kernel
theorem dX7_run_121 : decode cX7_run 121 = .ok (.iconst 0, 1) := by decide +kernel
theorem dX7_run_122 : decode cX7_run 122 = .ok (.ireturn, 1) := by decide +kernel
theorem dX7_clash_0 : decode cX7_clash 0 = .ok (.aload_n 0, 1) := by decide +kernel
theorem dX7_clash_1 : decode cX7_clash 1 = .ok (.getfield 35, 3) := by decide +kernel
theorem dX7_clash_4 : decode cX7_clash 4 = .ok (.getfield 116, 3) := by decide +kernel
theorem dX7_clash_7 : decode cX7_clash 7 = .ok (.ireturn, 1) := by decide +kernel
theorem dX7_has_0 : decode cX7_has 0 = .ok (.aload_n 0, 1) := by decide +kernel
theorem dX7_has_1 : decode cX7_has 1 = .ok (.iload_n 1, 1) := by decide +kernel
theorem dX7_has_2 : decode cX7_has 2 = .ok (.invokevirtual 63, 3) := by decide +kernel
theorem dX7_has_5 : decode cX7_has 5 = .ok (.ifCond .ne 7, 3) := by decide +kernel
theorem dX7_has_8 : decode cX7_has 8 = .ok (.sipush (-1001), 3) := by decide +kernel
theorem dX7_has_11 : decode cX7_has 11 = .ok (.ireturn, 1) := by decide +kernel
theorem dX7_has_12 : decode cX7_has 12 = .ok (.iload_n 2, 1) := by decide +kernel
theorem dX7_has_13 : decode cX7_has 13 = .ok (.invokestatic 48, 3) := by decide +kernel
theorem dX7_has_16 : decode cX7_has 16 = .ok (.ifCond .eq 23, 3) := by decide +kernel
theorem dX7_has_19 : decode cX7_has 19 = .ok (.aload_n 0, 1) := by decide +kernel
theorem dX7_has_20 : decode cX7_has 20 = .ok (.getfield 10, 3) := by decide +kernel
theorem dX7_has_23 : decode cX7_has 23 = .ok (.getfield 124, 3) := by decide +kernel
theorem dX7_has_26 : decode cX7_has 26 = .ok (.iload_n 1, 1) := by decide +kernel
theorem dX7_has_27 : decode cX7_has 27 = .ok (.laload, 1) := by decide +kernel
theorem dX7_has_28 : decode cX7_has 28 = .ok (.iload_n 2, 1) := by decide +kernel
theorem dX7_has_29 : decode cX7_has 29 = .ok (.invokestatic 77, 3) := by decide +kernel
theorem dX7_has_32 : decode cX7_has 32 = .ok (.ifCond .eq 7, 3) := by decide +kernel
theorem dX7_has_35 : decode cX7_has 35 = .ok (.iconst 1, 1) := by decide +kernel
theorem dX7_has_36 : decode cX7_has 36 = .ok (.goto 4, 3) := by decide +kernel
theorem dX7_has_39 : decode cX7_has 39 = .ok (.iconst 0, 1) := by decide +kernel
theorem dX7_has_40 : decode cX7_has 40 = .ok (.ireturn, 1) := by decide +kernel
theorem dX7_end_0 : decode cX7_end 0 = .ok (.aload_n 0, 1) := by decide +kernel
theorem dX7_end_1 : decode cX7_end 1 = .ok (.iload_n 1, 1) := by decide +kernel
theorem dX7_end_2 : decode cX7_end 2 = .ok (.invokevirtual 63, 3) := by decide +kernel
theorem dX7_end_5 : decode cX7_end 5 = .ok (.ifCond .ne 7, 3) := by decide +kernel
theorem dX7_end_8 : decode cX7_end 8 = .ok (.sipush (-1001), 3) := by decide +kernel
theorem dX7_end_11 : decode cX7_end 11 = .ok (.ireturn, 1) := by decide +kernel
theorem dX7_end_12 : decode cX7_end 12 = .ok (.aload_n 0, 1) := by decide +kernel
theorem dX7_end_13 : decode cX7_end 13 = .ok (.getfield 10, 3) := by decide +kernel
theorem dX7_end_16 : decode cX7_end 16 = .ok (.getfield 124, 3) := by decide +kernel
theorem dX7_end_19 : decode cX7_end 19 = .ok (.iload_n 1, 1) := by decide +kernel
theorem dX7_end_20 : decode cX7_end 20 = .ok (.laload, 1) := by decide +kernel
theorem dX7_end_21 : decode cX7_end 21 = .ok (.lstore_n 3, 1) := by decide +kernel
theorem dX7_end_22 : decode cX7_end 22 = .ok (.lload_n 3, 1) := by decide +kernel
theorem dX7_end_23 : decode cX7_end 23 = .ok (.lconst 0, 1) := by decide +kernel
theorem dX7_end_24 : decode cX7_end 24 = .ok (.lcmp, 1) := by decide +kernel
theorem dX7_end_25 : decode cX7_end 25 = .ok (.ifCond .ne 7, 3) := by decide +kernel
theorem dX7_end_28 : decode cX7_end 28 = .ok (.sipush (-1000), 3) := by decide +kernel
theorem dX7_end_31 : decode cX7_end 31 = .ok (.ireturn, 1) := by decide +kernel
theorem dX7_end_32 : decode cX7_end 32 = .ok (.iload_n 2, 1) := by decide +kernel
theorem dX7_end_33 : decode cX7_end 33 = .ok (.ifCond .eq 10, 3) := by decide +kernel
theorem dX7_end_36 : decode cX7_end 36 = .ok (.lload_n 3, 1) := by decide +kernel
theorem dX7_end_37 : decode cX7_end 37 = .ok (.invokestatic 127, 3) := by decide +kernel
theorem dX7_end_40 : decode cX7_end 40 = .ok (.goto 7, 3) := by decide +kernel
theorem dX7_end_43 : decode cX7_end 43 = .ok (.lload_n 3, 1) := by decide +kernel
theorem dX7_end_44 : decode cX7_end 44 = .ok (.invokestatic 131, 3) := by decide +kernel
theorem dX7_end_47 : decode cX7_end 47 = .ok (.ireturn, 1) := by decide +kernel
theorem dX7_size_0 : decode cX7_size 0 = .ok (.aload_n 0, 1) := by decide +kernel
theorem dX7_size_1 : decode cX7_size 1 = .ok (.iload_n 1, 1) := by decide +kernel
theorem dX7_size_2 : decode cX7_size 2 = .ok (.invokevirtual 63, 3) := by decide +kernel
theorem dX7_size_5 : decode cX7_size 5 = .ok (.ifCond .eq 18, 3) := by decide +kernel
theorem dX7_size_8 : decode cX7_size 8 = .ok (.aload_n 0, 1) := by decide +kernel
theorem dX7_size_9 : decode cX7_size 9 = .ok (.getfield 10, 3) := by decide +kernel
theorem dX7_size_12 : decode cX7_size 12 = .ok (.getfield 124, 3) := by decide +kernel
theorem dX7_size_15 : decode cX7_size 15 = .ok (.iload_n 1, 1) := by decide +kernel
theorem dX7_size_16 : decode cX7_size 16 = .ok (.laload, 1) := by decide +kernel
theorem dX7_size_17 : decode cX7_size 17 = .ok (.invokestatic 134, 3) := by decide +kernel
theorem dX7_size_20 : decode cX7_size 20 = .ok (.goto 6, 3) := by decide +kernel
theorem dX7_size_23 : decode cX7_size 23 = .ok (.sipush (-1001), 3) := by decide +kernel
theorem dX7_size_26 : decode cX7_size 26 = .ok (.ireturn, 1) := by decide +kernel
theorem dX7_steps_0 : decode cX7_steps 0 = .ok (.aload_n 0, 1) := by decide +kernel
theorem dX7_steps_1 : decode cX7_steps 1 = .ok (.getfield 26, 3) := by decide +kernel
theorem dX7_steps_4 : decode cX7_steps 4 = .ok (.getfield 119, 3) := by decide +kernel
theorem dX7_steps_7 : decode cX7_steps 7 = .ok (.ireturn, 1) := by decide +kernel
theorem dX7_step_0 : decode cX7_step 0 = .ok (.aload_n 0, 1) := by decide +kernel
theorem dX7_step_1 : decode cX7_step 1 = .ok (.iload_n 1, 1) := by decide +kernel
theorem dX7_step_2 : decode cX7_step 2 = .ok (.invokevirtual 139, 3) := by decide +kernel
theorem dX7_step_5 : decode cX7_step 5 = .ok (.ifCond .ne 7, 3) := by decide +kernel
theorem dX7_step_8 : decode cX7_step 8 = .ok (.sipush (-1001), 3) := by decide +kernel
theorem dX7_step_11 : decode cX7_step 11 = .ok (.ireturn, 1) := by decide +kernel
theorem dX7_step_12 : decode cX7_step 12 = .ok (.iload_n 2, 1) := by decide +kernel
theorem dX7_step_13 : decode cX7_step 13 = .ok (.tableswitch 71 0 3 #[31, 41, 51, 61], 31) := by decide +kernel
theorem dX7_step_44 : decode cX7_step 44 = .ok (.aload_n 0, 1) := by decide +kernel
theorem dX7_step_45 : decode cX7_step 45 = .ok (.getfield 26, 3) := by decide +kernel
theorem dX7_step_48 : decode cX7_step 48 = .ok (.getfield 142, 3) := by decide +kernel
theorem dX7_step_51 : decode cX7_step 51 = .ok (.iload_n 1, 1) := by decide +kernel
theorem dX7_step_52 : decode cX7_step 52 = .ok (.iaload, 1) := by decide +kernel
theorem dX7_step_53 : decode cX7_step 53 = .ok (.ireturn, 1) := by decide +kernel
theorem dX7_step_54 : decode cX7_step 54 = .ok (.aload_n 0, 1) := by decide +kernel
theorem dX7_step_55 : decode cX7_step 55 = .ok (.getfield 26, 3) := by decide +kernel
theorem dX7_step_58 : decode cX7_step 58 = .ok (.getfield 145, 3) := by decide +kernel
theorem dX7_step_61 : decode cX7_step 61 = .ok (.iload_n 1, 1) := by decide +kernel
theorem dX7_step_62 : decode cX7_step 62 = .ok (.iaload, 1) := by decide +kernel
theorem dX7_step_63 : decode cX7_step 63 = .ok (.ireturn, 1) := by decide +kernel
theorem dX7_step_64 : decode cX7_step 64 = .ok (.aload_n 0, 1) := by decide +kernel
theorem dX7_step_65 : decode cX7_step 65 = .ok (.getfield 26, 3) := by decide +kernel
theorem dX7_step_68 : decode cX7_step 68 = .ok (.getfield 148, 3) := by decide +kernel
theorem dX7_step_71 : decode cX7_step 71 = .ok (.iload_n 1, 1) := by decide +kernel
theorem dX7_step_72 : decode cX7_step 72 = .ok (.iaload, 1) := by decide +kernel
theorem dX7_step_73 : decode cX7_step 73 = .ok (.ireturn, 1) := by decide +kernel
theorem dX7_step_74 : decode cX7_step 74 = .ok (.aload_n 0, 1) := by decide +kernel
theorem dX7_step_75 : decode cX7_step 75 = .ok (.getfield 26, 3) := by decide +kernel
theorem dX7_step_78 : decode cX7_step 78 = .ok (.getfield 151, 3) := by decide +kernel
theorem dX7_step_81 : decode cX7_step 81 = .ok (.iload_n 1, 1) := by decide +kernel
theorem dX7_step_82 : decode cX7_step 82 = .ok (.iaload, 1) := by decide +kernel
theorem dX7_step_83 : decode cX7_step 83 = .ok (.ireturn, 1) := by decide +kernel
theorem dX7_step_84 : decode cX7_step 84 = .ok (.sipush (-1001), 3) := by decide +kernel
theorem dX7_step_87 : decode cX7_step 87 = .ok (.ireturn, 1) := by decide +kernel
theorem dX7_reason_0 : decode cX7_reason 0 = .ok (.aload_n 0, 1) := by decide +kernel
theorem dX7_reason_1 : decode cX7_reason 1 = .ok (.iload_n 1, 1) := by decide +kernel
theorem dX7_reason_2 : decode cX7_reason 2 = .ok (.invokevirtual 139, 3) := by decide +kernel
theorem dX7_reason_5 : decode cX7_reason 5 = .ok (.ifCond .eq 18, 3) := by decide +kernel
theorem dX7_reason_8 : decode cX7_reason 8 = .ok (.aload_n 0, 1) := by decide +kernel
theorem dX7_reason_9 : decode cX7_reason 9 = .ok (.getfield 26, 3) := by decide +kernel
theorem dX7_reason_12 : decode cX7_reason 12 = .ok (.getfield 154, 3) := by decide +kernel
theorem dX7_reason_15 : decode cX7_reason 15 = .ok (.iload_n 1, 1) := by decide +kernel
theorem dX7_reason_16 : decode cX7_reason 16 = .ok (.iaload, 1) := by decide +kernel
theorem dX7_reason_17 : decode cX7_reason 17 = .ok (.invokestatic 157, 3) := by decide +kernel
theorem dX7_reason_20 : decode cX7_reason 20 = .ok (.goto 6, 3) := by decide +kernel
theorem dX7_reason_23 : decode cX7_reason 23 = .ok (.sipush (-1001), 3) := by decide +kernel
theorem dX7_reason_26 : decode cX7_reason 26 = .ok (.ireturn, 1) := by decide +kernel
theorem dX7_part_0 : decode cX7_part 0 = .ok (.aload_n 0, 1) := by decide +kernel
theorem dX7_part_1 : decode cX7_part 1 = .ok (.iload_n 1, 1) := by decide +kernel
theorem dX7_part_2 : decode cX7_part 2 = .ok (.invokevirtual 139, 3) := by decide +kernel
theorem dX7_part_5 : decode cX7_part 5 = .ok (.ifCond .eq 15, 3) := by decide +kernel
theorem dX7_part_8 : decode cX7_part 8 = .ok (.aload_n 0, 1) := by decide +kernel
theorem dX7_part_9 : decode cX7_part 9 = .ok (.getfield 26, 3) := by decide +kernel
theorem dX7_part_12 : decode cX7_part 12 = .ok (.iload_n 1, 1) := by decide +kernel
theorem dX7_part_13 : decode cX7_part 13 = .ok (.iload_n 2, 1) := by decide +kernel
theorem dX7_part_14 : decode cX7_part 14 = .ok (.invokevirtual 162, 3) := by decide +kernel
theorem dX7_part_17 : decode cX7_part 17 = .ok (.goto 6, 3) := by decide +kernel
theorem dX7_part_20 : decode cX7_part 20 = .ok (.sipush (-1001), 3) := by decide +kernel
theorem dX7_part_23 : decode cX7_part 23 = .ok (.ireturn, 1) := by decide +kernel
theorem dX7_told_0 : decode cX7_told 0 = .ok (.aload_n 0, 1) := by decide +kernel
theorem dX7_told_1 : decode cX7_told 1 = .ok (.iload_n 1, 1) := by decide +kernel
theorem dX7_told_2 : decode cX7_told 2 = .ok (.iload_n 2, 1) := by decide +kernel
theorem dX7_told_3 : decode cX7_told 3 = .ok (.invokevirtual 166, 3) := by decide +kernel
theorem dX7_told_6 : decode cX7_told 6 = .ok (.istore_n 3, 1) := by decide +kernel
theorem dX7_told_7 : decode cX7_told 7 = .ok (.iload_n 3, 1) := by decide +kernel
theorem dX7_told_8 : decode cX7_told 8 = .ok (.iconst 2, 1) := by decide +kernel
theorem dX7_told_9 : decode cX7_told 9 = .ok (.idiv, 1) := by decide +kernel
theorem dX7_told_10 : decode cX7_told 10 = .ok (.istore 4, 2) := by decide +kernel
theorem dX7_told_12 : decode cX7_told 12 = .ok (.iload_n 3, 1) := by decide +kernel
theorem dX7_told_13 : decode cX7_told 13 = .ok (.ifCond .lt 12, 3) := by decide +kernel
theorem dX7_told_16 : decode cX7_told 16 = .ok (.aload_n 0, 1) := by decide +kernel
theorem dX7_told_17 : decode cX7_told 17 = .ok (.iload 4, 2) := by decide +kernel
theorem dX7_told_19 : decode cX7_told 19 = .ok (.invokevirtual 63, 3) := by decide +kernel
theorem dX7_told_22 : decode cX7_told 22 = .ok (.ifCond .ne 7, 3) := by decide +kernel
theorem dX7_told_25 : decode cX7_told 25 = .ok (.sipush (-1001), 3) := by decide +kernel
theorem dX7_told_28 : decode cX7_told 28 = .ok (.ireturn, 1) := by decide +kernel
theorem dX7_told_29 : decode cX7_told 29 = .ok (.aload_n 0, 1) := by decide +kernel
theorem dX7_told_30 : decode cX7_told 30 = .ok (.getfield 26, 3) := by decide +kernel
theorem dX7_told_33 : decode cX7_told 33 = .ok (.aload_n 0, 1) := by decide +kernel
theorem dX7_told_34 : decode cX7_told 34 = .ok (.getfield 10, 3) := by decide +kernel
theorem dX7_told_37 : decode cX7_told 37 = .ok (.getfield 66, 3) := by decide +kernel
theorem dX7_told_40 : decode cX7_told 40 = .ok (.iload 4, 2) := by decide +kernel
theorem dX7_told_42 : decode cX7_told 42 = .ok (.laload, 1) := by decide +kernel
theorem dX7_told_43 : decode cX7_told 43 = .ok (.iload 4, 2) := by decide +kernel
theorem dX7_told_45 : decode cX7_told 45 = .ok (.iload_n 1, 1) := by decide +kernel
theorem dX7_told_46 : decode cX7_told 46 = .ok (.invokevirtual 169, 3) := by decide +kernel
theorem dX7_told_49 : decode cX7_told 49 = .ok (.lstore 5, 2) := by decide +kernel
theorem dX7_told_51 : decode cX7_told 51 = .ok (.iload_n 3, 1) := by decide +kernel
theorem dX7_told_52 : decode cX7_told 52 = .ok (.iconst 2, 1) := by decide +kernel
theorem dX7_told_53 : decode cX7_told 53 = .ok (.irem, 1) := by decide +kernel
theorem dX7_told_54 : decode cX7_told 54 = .ok (.iconst 1, 1) := by decide +kernel
theorem dX7_told_55 : decode cX7_told 55 = .ok (.if_icmp .ne 11, 3) := by decide +kernel
theorem dX7_told_58 : decode cX7_told 58 = .ok (.lload 5, 2) := by decide +kernel
theorem dX7_told_60 : decode cX7_told 60 = .ok (.invokestatic 127, 3) := by decide +kernel
theorem dX7_told_63 : decode cX7_told 63 = .ok (.goto 8, 3) := by decide +kernel
theorem dX7_told_66 : decode cX7_told 66 = .ok (.lload 5, 2) := by decide +kernel
theorem dX7_told_68 : decode cX7_told 68 = .ok (.invokestatic 131, 3) := by decide +kernel
theorem dX7_told_71 : decode cX7_told 71 = .ok (.ireturn, 1) := by decide +kernel
theorem dX7_plans_0 : decode cX7_plans 0 = .ok (.aload_n 0, 1) := by decide +kernel
theorem dX7_plans_1 : decode cX7_plans 1 = .ok (.getfield 10, 3) := by decide +kernel
theorem dX7_plans_4 : decode cX7_plans 4 = .ok (.invokevirtual 173, 3) := by decide +kernel
theorem dX7_plans_7 : decode cX7_plans 7 = .ok (.lstore_n 1, 1) := by decide +kernel
theorem dX7_plans_8 : decode cX7_plans 8 = .ok (.lload_n 1, 1) := by decide +kernel
theorem dX7_plans_9 : decode cX7_plans 9 = .ok (.ldc2_w 177, 3) := by decide +kernel
theorem dX7_plans_12 : decode cX7_plans 12 = .ok (.lcmp, 1) := by decide +kernel
theorem dX7_plans_13 : decode cX7_plans 13 = .ok (.ifCond .le 7, 3) := by decide +kernel
theorem dX7_plans_16 : decode cX7_plans 16 = .ok (.sipush (-1000), 3) := by decide +kernel
theorem dX7_plans_19 : decode cX7_plans 19 = .ok (.ireturn, 1) := by decide +kernel
theorem dX7_plans_20 : decode cX7_plans 20 = .ok (.lload_n 1, 1) := by decide +kernel
theorem dX7_plans_21 : decode cX7_plans 21 = .ok (.lconst 0, 1) := by decide +kernel
theorem dX7_plans_22 : decode cX7_plans 22 = .ok (.lcmp, 1) := by decide +kernel
theorem dX7_plans_23 : decode cX7_plans 23 = .ok (.ifCond .ne 7, 3) := by decide +kernel
theorem dX7_plans_26 : decode cX7_plans 26 = .ok (.iconst 0, 1) := by decide +kernel
theorem dX7_plans_27 : decode cX7_plans 27 = .ok (.goto 10, 3) := by decide +kernel
theorem dX7_plans_30 : decode cX7_plans 30 = .ok (.aload_n 0, 1) := by decide +kernel
theorem dX7_plans_31 : decode cX7_plans 31 = .ok (.getfield 44, 3) := by decide +kernel
theorem dX7_plans_34 : decode cX7_plans 34 = .ok (.invokevirtual 179, 3) := by decide +kernel
theorem dX7_plans_37 : decode cX7_plans 37 = .ok (.ireturn, 1) := by decide +kernel
theorem dX7_beginAnew_0 : decode cX7_beginAnew 0 = .ok (.aload_n 0, 1) := by decide +kernel
theorem dX7_beginAnew_1 : decode cX7_beginAnew 1 = .ok (.getfield 10, 3) := by decide +kernel
theorem dX7_beginAnew_4 : decode cX7_beginAnew 4 = .ok (.invokevirtual 183, 3) := by decide +kernel
theorem dX7_beginAnew_7 : decode cX7_beginAnew 7 = .ok (.aload_n 0, 1) := by decide +kernel
theorem dX7_beginAnew_8 : decode cX7_beginAnew 8 = .ok (.getfield 26, 3) := by decide +kernel
theorem dX7_beginAnew_11 : decode cX7_beginAnew 11 = .ok (.iconst 0, 1) := by decide +kernel
theorem dX7_beginAnew_12 : decode cX7_beginAnew 12 = .ok (.putfield 119, 3) := by decide +kernel
theorem dX7_beginAnew_15 : decode cX7_beginAnew 15 = .ok (.aload_n 0, 1) := by decide +kernel
theorem dX7_beginAnew_16 : decode cX7_beginAnew 16 = .ok (.getfield 35, 3) := by decide +kernel
theorem dX7_beginAnew_19 : decode cX7_beginAnew 19 = .ok (.invokevirtual 186, 3) := by decide +kernel
theorem dX7_beginAnew_22 : decode cX7_beginAnew 22 = .ok (.return_, 1) := by decide +kernel
theorem dX7_isName_0 : decode cX7_isName 0 = .ok (.iload_n 1, 1) := by decide +kernel
theorem dX7_isName_1 : decode cX7_isName 1 = .ok (.ifCond .lt 18, 3) := by decide +kernel
theorem dX7_isName_4 : decode cX7_isName 4 = .ok (.iload_n 1, 1) := by decide +kernel
theorem dX7_isName_5 : decode cX7_isName 5 = .ok (.aload_n 0, 1) := by decide +kernel
theorem dX7_isName_6 : decode cX7_isName 6 = .ok (.getfield 10, 3) := by decide +kernel
theorem dX7_isName_9 : decode cX7_isName 9 = .ok (.getfield 52, 3) := by decide +kernel
theorem dX7_isName_12 : decode cX7_isName 12 = .ok (.if_icmp .ge 7, 3) := by decide +kernel
theorem dX7_isName_15 : decode cX7_isName 15 = .ok (.iconst 1, 1) := by decide +kernel
theorem dX7_isName_16 : decode cX7_isName 16 = .ok (.goto 4, 3) := by decide +kernel
theorem dX7_isName_19 : decode cX7_isName 19 = .ok (.iconst 0, 1) := by decide +kernel
theorem dX7_isName_20 : decode cX7_isName 20 = .ok (.ireturn, 1) := by decide +kernel
theorem dX7_isRow_0 : decode cX7_isRow 0 = .ok (.iload_n 1, 1) := by decide +kernel
theorem dX7_isRow_1 : decode cX7_isRow 1 = .ok (.ifCond .lt 18, 3) := by decide +kernel
theorem dX7_isRow_4 : decode cX7_isRow 4 = .ok (.iload_n 1, 1) := by decide +kernel
theorem dX7_isRow_5 : decode cX7_isRow 5 = .ok (.aload_n 0, 1) := by decide +kernel
theorem dX7_isRow_6 : decode cX7_isRow 6 = .ok (.getfield 19, 3) := by decide +kernel
theorem dX7_isRow_9 : decode cX7_isRow 9 = .ok (.getfield 89, 3) := by decide +kernel
theorem dX7_isRow_12 : decode cX7_isRow 12 = .ok (.if_icmp .ge 7, 3) := by decide +kernel
theorem dX7_isRow_15 : decode cX7_isRow 15 = .ok (.iconst 1, 1) := by decide +kernel
theorem dX7_isRow_16 : decode cX7_isRow 16 = .ok (.goto 4, 3) := by decide +kernel
theorem dX7_isRow_19 : decode cX7_isRow 19 = .ok (.iconst 0, 1) := by decide +kernel
theorem dX7_isRow_20 : decode cX7_isRow 20 = .ok (.ireturn, 1) := by decide +kernel
theorem dX7_isStep_0 : decode cX7_isStep 0 = .ok (.iload_n 1, 1) := by decide +kernel
theorem dX7_isStep_1 : decode cX7_isStep 1 = .ok (.ifCond .lt 18, 3) := by decide +kernel
theorem dX7_isStep_4 : decode cX7_isStep 4 = .ok (.iload_n 1, 1) := by decide +kernel
theorem dX7_isStep_5 : decode cX7_isStep 5 = .ok (.aload_n 0, 1) := by decide +kernel
theorem dX7_isStep_6 : decode cX7_isStep 6 = .ok (.getfield 26, 3) := by decide +kernel
theorem dX7_isStep_9 : decode cX7_isStep 9 = .ok (.getfield 119, 3) := by decide +kernel
theorem dX7_isStep_12 : decode cX7_isStep 12 = .ok (.if_icmp .ge 7, 3) := by decide +kernel
theorem dX7_isStep_15 : decode cX7_isStep 15 = .ok (.iconst 1, 1) := by decide +kernel
theorem dX7_isStep_16 : decode cX7_isStep 16 = .ok (.goto 4, 3) := by decide +kernel
theorem dX7_isStep_19 : decode cX7_isStep 19 = .ok (.iconst 0, 1) := by decide +kernel
theorem dX7_isStep_20 : decode cX7_isStep 20 = .ok (.ireturn, 1) := by decide +kernel
theorem dX7_areDifferentNames_0 : decode cX7_areDifferentNames 0 = .ok (.iload_n 1, 1) := by decide +kernel
theorem dX7_areDifferentNames_1 : decode cX7_areDifferentNames 1 = .ok (.iconst 1, 1) := by decide +kernel
theorem dX7_areDifferentNames_2 : decode cX7_areDifferentNames 2 = .ok (.if_icmp .lt 13, 3) := by decide +kernel
theorem dX7_areDifferentNames_5 : decode cX7_areDifferentNames 5 = .ok (.aload_n 0, 1) := by decide +kernel
theorem dX7_areDifferentNames_6 : decode cX7_areDifferentNames 6 = .ok (.iload_n 2, 1) := by decide +kernel
theorem dX7_areDifferentNames_7 : decode cX7_areDifferentNames 7 = .ok (.invokevirtual 63, 3) := by decide +kernel
theorem dX7_areDifferentNames_10 : decode cX7_areDifferentNames 10 = .ok (.ifCond .ne 5, 3) := by decide +kernel
theorem dX7_areDifferentNames_13 : decode cX7_areDifferentNames 13 = .ok (.iconst 0, 1) := by decide +kernel
theorem dX7_areDifferentNames_14 : decode cX7_areDifferentNames 14 = .ok (.ireturn, 1) := by decide +kernel
theorem dX7_areDifferentNames_15 : decode cX7_areDifferentNames 15 = .ok (.iload_n 1, 1) := by decide +kernel
theorem dX7_areDifferentNames_16 : decode cX7_areDifferentNames 16 = .ok (.iconst 2, 1) := by decide +kernel
theorem dX7_areDifferentNames_17 : decode cX7_areDifferentNames 17 = .ok (.if_icmp .lt 18, 3) := by decide +kernel
theorem dX7_areDifferentNames_20 : decode cX7_areDifferentNames 20 = .ok (.aload_n 0, 1) := by decide +kernel
theorem dX7_areDifferentNames_21 : decode cX7_areDifferentNames 21 = .ok (.iload_n 3, 1) := by decide +kernel
theorem dX7_areDifferentNames_22 : decode cX7_areDifferentNames 22 = .ok (.invokevirtual 63, 3) := by decide +kernel
theorem dX7_areDifferentNames_25 : decode cX7_areDifferentNames 25 = .ok (.ifCond .eq 8, 3) := by decide +kernel
theorem dX7_areDifferentNames_28 : decode cX7_areDifferentNames 28 = .ok (.iload_n 3, 1) := by decide +kernel
theorem dX7_areDifferentNames_29 : decode cX7_areDifferentNames 29 = .ok (.iload_n 2, 1) := by decide +kernel
theorem dX7_areDifferentNames_30 : decode cX7_areDifferentNames 30 = .ok (.if_icmp .ne 5, 3) := by decide +kernel
theorem dX7_areDifferentNames_33 : decode cX7_areDifferentNames 33 = .ok (.iconst 0, 1) := by decide +kernel
theorem dX7_areDifferentNames_34 : decode cX7_areDifferentNames 34 = .ok (.ireturn, 1) := by decide +kernel
theorem dX7_areDifferentNames_35 : decode cX7_areDifferentNames 35 = .ok (.iload_n 1, 1) := by decide +kernel
theorem dX7_areDifferentNames_36 : decode cX7_areDifferentNames 36 = .ok (.iconst 3, 1) := by decide +kernel
theorem dX7_areDifferentNames_37 : decode cX7_areDifferentNames 37 = .ok (.if_icmp .lt 24, 3) := by decide +kernel
theorem dX7_areDifferentNames_40 : decode cX7_areDifferentNames 40 = .ok (.aload_n 0, 1) := by decide +kernel
theorem dX7_areDifferentNames_41 : decode cX7_areDifferentNames 41 = .ok (.iload 4, 2) := by decide +kernel
theorem dX7_areDifferentNames_43 : decode cX7_areDifferentNames 43 = .ok (.invokevirtual 63, 3) := by decide +kernel
theorem dX7_areDifferentNames_46 : decode cX7_areDifferentNames 46 = .ok (.ifCond .eq 19, 3) := by decide +kernel
theorem dX7_areDifferentNames_49 : decode cX7_areDifferentNames 49 = .ok (.iload 4, 2) := by decide +kernel
theorem dX7_areDifferentNames_51 : decode cX7_areDifferentNames 51 = .ok (.iload_n 2, 1) := by decide +kernel
theorem dX7_areDifferentNames_52 : decode cX7_areDifferentNames 52 = .ok (.if_icmp .eq 13, 3) := by decide +kernel
theorem dX7_areDifferentNames_55 : decode cX7_areDifferentNames 55 = .ok (.iload 4, 2) := by decide +kernel
theorem dX7_areDifferentNames_57 : decode cX7_areDifferentNames 57 = .ok (.iload_n 3, 1) := by decide +kernel
theorem dX7_areDifferentNames_58 : decode cX7_areDifferentNames 58 = .ok (.if_icmp .eq 7, 3) := by decide +kernel
theorem dX7_areDifferentNames_61 : decode cX7_areDifferentNames 61 = .ok (.iconst 1, 1) := by decide +kernel
theorem dX7_areDifferentNames_62 : decode cX7_areDifferentNames 62 = .ok (.goto 4, 3) := by decide +kernel
theorem dX7_areDifferentNames_65 : decode cX7_areDifferentNames 65 = .ok (.iconst 0, 1) := by decide +kernel
theorem dX7_areDifferentNames_66 : decode cX7_areDifferentNames 66 = .ok (.ireturn, 1) := by decide +kernel
theorem dX7_isNumber_0 : decode cX7_isNumber 0 = .ok (.iload_n 0, 1) := by decide +kernel
theorem dX7_isNumber_1 : decode cX7_isNumber 1 = .ok (.bipush (-32), 2) := by decide +kernel
theorem dX7_isNumber_3 : decode cX7_isNumber 3 = .ok (.if_icmp .lt 13, 3) := by decide +kernel
theorem dX7_isNumber_6 : decode cX7_isNumber 6 = .ok (.iload_n 0, 1) := by decide +kernel
theorem dX7_isNumber_7 : decode cX7_isNumber 7 = .ok (.bipush 31, 2) := by decide +kernel
theorem dX7_isNumber_9 : decode cX7_isNumber 9 = .ok (.if_icmp .gt 7, 3) := by decide +kernel
theorem dX7_isNumber_12 : decode cX7_isNumber 12 = .ok (.iconst 1, 1) := by decide +kernel
theorem dX7_isNumber_13 : decode cX7_isNumber 13 = .ok (.goto 4, 3) := by decide +kernel
theorem dX7_isNumber_16 : decode cX7_isNumber 16 = .ok (.iconst 0, 1) := by decide +kernel
theorem dX7_isNumber_17 : decode cX7_isNumber 17 = .ok (.ireturn, 1) := by decide +kernel
theorem dX7_bitOf_0 : decode cX7_bitOf 0 = .ok (.lconst 1, 1) := by decide +kernel
theorem dX7_bitOf_1 : decode cX7_bitOf 1 = .ok (.iload_n 0, 1) := by decide +kernel
theorem dX7_bitOf_2 : decode cX7_bitOf 2 = .ok (.bipush (-32), 2) := by decide +kernel
theorem dX7_bitOf_4 : decode cX7_bitOf 4 = .ok (.isub, 1) := by decide +kernel
theorem dX7_bitOf_5 : decode cX7_bitOf 5 = .ok (.lshl, 1) := by decide +kernel
theorem dX7_bitOf_6 : decode cX7_bitOf 6 = .ok (.lreturn, 1) := by decide +kernel
theorem dX7_hasBit_0 : decode cX7_hasBit 0 = .ok (.lload_n 0, 1) := by decide +kernel
theorem dX7_hasBit_1 : decode cX7_hasBit 1 = .ok (.iload_n 2, 1) := by decide +kernel
theorem dX7_hasBit_2 : decode cX7_hasBit 2 = .ok (.invokestatic 70, 3) := by decide +kernel
theorem dX7_hasBit_5 : decode cX7_hasBit 5 = .ok (.land, 1) := by decide +kernel
theorem dX7_hasBit_6 : decode cX7_hasBit 6 = .ok (.lconst 0, 1) := by decide +kernel
theorem dX7_hasBit_7 : decode cX7_hasBit 7 = .ok (.lcmp, 1) := by decide +kernel
theorem dX7_hasBit_8 : decode cX7_hasBit 8 = .ok (.ifCond .eq 7, 3) := by decide +kernel
theorem dX7_hasBit_11 : decode cX7_hasBit 11 = .ok (.iconst 1, 1) := by decide +kernel
theorem dX7_hasBit_12 : decode cX7_hasBit 12 = .ok (.goto 4, 3) := by decide +kernel
theorem dX7_hasBit_15 : decode cX7_hasBit 15 = .ok (.iconst 0, 1) := by decide +kernel
theorem dX7_hasBit_16 : decode cX7_hasBit 16 = .ok (.ireturn, 1) := by decide +kernel
theorem dX7_leastOf_0 : decode cX7_leastOf 0 = .ok (.bipush (-32), 2) := by decide +kernel
theorem dX7_leastOf_2 : decode cX7_leastOf 2 = .ok (.lload_n 0, 1) := by decide +kernel
theorem dX7_leastOf_3 : decode cX7_leastOf 3 = .ok (.invokestatic 189, 3) := by decide +kernel
theorem dX7_leastOf_6 : decode cX7_leastOf 6 = .ok (.iadd, 1) := by decide +kernel
theorem dX7_leastOf_7 : decode cX7_leastOf 7 = .ok (.ireturn, 1) := by decide +kernel
theorem dX7_mostOf_0 : decode cX7_mostOf 0 = .ok (.bipush 31, 2) := by decide +kernel
theorem dX7_mostOf_2 : decode cX7_mostOf 2 = .ok (.lload_n 0, 1) := by decide +kernel
theorem dX7_mostOf_3 : decode cX7_mostOf 3 = .ok (.invokestatic 192, 3) := by decide +kernel
theorem dX7_mostOf_6 : decode cX7_mostOf 6 = .ok (.isub, 1) := by decide +kernel
theorem dX7_mostOf_7 : decode cX7_mostOf 7 = .ok (.ireturn, 1) := by decide +kernel
theorem dX8_init_0 : decode cX8_init 0 = .ok (.aload_n 0, 1) := by decide +kernel
theorem dX8_init_1 : decode cX8_init 1 = .ok (.invokespecial 1, 3) := by decide +kernel
theorem dX8_init_4 : decode cX8_init 4 = .ok (.aload_n 0, 1) := by decide +kernel
theorem dX8_init_5 : decode cX8_init 5 = .ok (.sipush 512, 3) := by decide +kernel
theorem dX8_init_8 : decode cX8_init 8 = .ok (.newarray .boolean, 2) := by decide +kernel
theorem dX8_init_10 : decode cX8_init 10 = .ok (.putfield 7, 3) := by decide +kernel
theorem dX8_init_13 : decode cX8_init 13 = .ok (.aload_n 0, 1) := by decide +kernel
theorem dX8_init_14 : decode cX8_init 14 = .ok (.sipush 512, 3) := by decide +kernel
theorem dX8_init_17 : decode cX8_init 17 = .ok (.newarray .boolean, 2) := by decide +kernel
theorem dX8_init_19 : decode cX8_init 19 = .ok (.putfield 13, 3) := by decide +kernel
theorem dX8_init_22 : decode cX8_init 22 = .ok (.aload_n 0, 1) := by decide +kernel
theorem dX8_init_23 : decode cX8_init 23 = .ok (.bipush 12, 2) := by decide +kernel
theorem dX8_init_25 : decode cX8_init 25 = .ok (.newarray .int, 2) := by decide +kernel
theorem dX8_init_27 : decode cX8_init 27 = .ok (.putfield 16, 3) := by decide +kernel
theorem dX8_init_30 : decode cX8_init 30 = .ok (.aload_n 0, 1) := by decide +kernel
theorem dX8_init_31 : decode cX8_init 31 = .ok (.bipush 36, 2) := by decide +kernel
theorem dX8_init_33 : decode cX8_init 33 = .ok (.newarray .int, 2) := by decide +kernel
theorem dX8_init_35 : decode cX8_init 35 = .ok (.putfield 20, 3) := by decide +kernel
theorem dX8_init_38 : decode cX8_init 38 = .ok (.aload_n 0, 1) := by decide +kernel
theorem dX8_init_39 : decode cX8_init 39 = .ok (.bipush 12, 2) := by decide +kernel
theorem dX8_init_41 : decode cX8_init 41 = .ok (.newarray .int, 2) := by decide +kernel
theorem dX8_init_43 : decode cX8_init 43 = .ok (.putfield 23, 3) := by decide +kernel
theorem dX8_init_46 : decode cX8_init 46 = .ok (.aload_n 0, 1) := by decide +kernel
theorem dX8_init_47 : decode cX8_init 47 = .ok (.bipush 96, 2) := by decide +kernel
theorem dX8_init_49 : decode cX8_init 49 = .ok (.newarray .int, 2) := by decide +kernel
theorem dX8_init_51 : decode cX8_init 51 = .ok (.putfield 26, 3) := by decide +kernel
theorem dX8_init_54 : decode cX8_init 54 = .ok (.aload_n 0, 1) := by decide +kernel
theorem dX8_init_55 : decode cX8_init 55 = .ok (.sipush (-1000), 3) := by decide +kernel
theorem dX8_init_58 : decode cX8_init 58 = .ok (.putfield 29, 3) := by decide +kernel
theorem dX8_init_61 : decode cX8_init 61 = .ok (.aload_n 0, 1) := by decide +kernel
theorem dX8_init_62 : decode cX8_init 62 = .ok (.sipush 512, 3) := by decide +kernel
theorem dX8_init_65 : decode cX8_init 65 = .ok (.newarray .int, 2) := by decide +kernel
theorem dX8_init_67 : decode cX8_init 67 = .ok (.putfield 33, 3) := by decide +kernel
theorem dX8_init_70 : decode cX8_init 70 = .ok (.aload_n 0, 1) := by decide +kernel
theorem dX8_init_71 : decode cX8_init 71 = .ok (.sipush 512, 3) := by decide +kernel
theorem dX8_init_74 : decode cX8_init 74 = .ok (.newarray .int, 2) := by decide +kernel
theorem dX8_init_76 : decode cX8_init 76 = .ok (.putfield 36, 3) := by decide +kernel
theorem dX8_init_79 : decode cX8_init 79 = .ok (.aload_n 0, 1) := by decide +kernel
theorem dX8_init_80 : decode cX8_init 80 = .ok (.sipush 512, 3) := by decide +kernel
theorem dX8_init_83 : decode cX8_init 83 = .ok (.newarray .int, 2) := by decide +kernel
theorem dX8_init_85 : decode cX8_init 85 = .ok (.putfield 39, 3) := by decide +kernel
theorem dX8_init_88 : decode cX8_init 88 = .ok (.aload_n 0, 1) := by decide +kernel
theorem dX8_init_89 : decode cX8_init 89 = .ok (.sipush 512, 3) := by decide +kernel
theorem dX8_init_92 : decode cX8_init 92 = .ok (.newarray .int, 2) := by decide +kernel
theorem dX8_init_94 : decode cX8_init 94 = .ok (.putfield 42, 3) := by decide +kernel
theorem dX8_init_97 : decode cX8_init 97 = .ok (.aload_n 0, 1) := by decide +kernel
theorem dX8_init_98 : decode cX8_init 98 = .ok (.sipush 8192, 3) := by decide +kernel
theorem dX8_init_101 : decode cX8_init 101 = .ok (.newarray .boolean, 2) := by decide +kernel
theorem dX8_init_103 : decode cX8_init 103 = .ok (.putfield 45, 3) := by decide +kernel
theorem dX8_init_106 : decode cX8_init 106 = .ok (.aload_n 0, 1) := by decide +kernel
theorem dX8_init_107 : decode cX8_init 107 = .ok (.sipush 8192, 3) := by decide +kernel
theorem dX8_init_110 : decode cX8_init 110 = .ok (.newarray .int, 2) := by decide +kernel
theorem dX8_init_112 : decode cX8_init 112 = .ok (.putfield 48, 3) := by decide +kernel
theorem dX8_init_115 : decode cX8_init 115 = .ok (.aload_n 0, 1) := by decide +kernel
theorem dX8_init_116 : decode cX8_init 116 = .ok (.bipush 8, 2) := by decide +kernel
theorem dX8_init_118 : decode cX8_init 118 = .ok (.newarray .int, 2) := by decide +kernel
theorem dX8_init_120 : decode cX8_init 120 = .ok (.putfield 51, 3) := by decide +kernel
theorem dX8_init_123 : decode cX8_init 123 = .ok (.aload_n 0, 1) := by decide +kernel
theorem dX8_init_124 : decode cX8_init 124 = .ok (.bipush 8, 2) := by decide +kernel
theorem dX8_init_126 : decode cX8_init 126 = .ok (.newarray .int, 2) := by decide +kernel
theorem dX8_init_128 : decode cX8_init 128 = .ok (.putfield 54, 3) := by decide +kernel
theorem dX8_init_131 : decode cX8_init 131 = .ok (.return_, 1) := by decide +kernel
theorem dX8_in_0 : decode cX8_in 0 = .ok (.iload_n 0, 1) := by decide +kernel
theorem dX8_in_1 : decode cX8_in 1 = .ok (.iload_n 1, 1) := by decide +kernel
theorem dX8_in_2 : decode cX8_in 2 = .ok (.if_icmp .lt 12, 3) := by decide +kernel
theorem dX8_in_5 : decode cX8_in 5 = .ok (.iload_n 0, 1) := by decide +kernel
theorem dX8_in_6 : decode cX8_in 6 = .ok (.iload_n 2, 1) := by decide +kernel
theorem dX8_in_7 : decode cX8_in 7 = .ok (.if_icmp .gt 7, 3) := by decide +kernel
theorem dX8_in_10 : decode cX8_in 10 = .ok (.iconst 1, 1) := by decide +kernel
theorem dX8_in_11 : decode cX8_in 11 = .ok (.goto 4, 3) := by decide +kernel
theorem dX8_in_14 : decode cX8_in 14 = .ok (.iconst 0, 1) := by decide +kernel
theorem dX8_in_15 : decode cX8_in 15 = .ok (.ireturn, 1) := by decide +kernel
theorem dX8_isName_0 : decode cX8_isName 0 = .ok (.iload_n 1, 1) := by decide +kernel
theorem dX8_isName_1 : decode cX8_isName 1 = .ok (.iconst 0, 1) := by decide +kernel
theorem dX8_isName_2 : decode cX8_isName 2 = .ok (.aload_n 0, 1) := by decide +kernel
theorem dX8_isName_3 : decode cX8_isName 3 = .ok (.getfield 57, 3) := by decide +kernel
theorem dX8_isName_6 : decode cX8_isName 6 = .ok (.iconst 1, 1) := by decide +kernel
theorem dX8_isName_7 : decode cX8_isName 7 = .ok (.isub, 1) := by decide +kernel
theorem dX8_isName_8 : decode cX8_isName 8 = .ok (.invokestatic 60, 3) := by decide +kernel
theorem dX8_isName_11 : decode cX8_isName 11 = .ok (.ireturn, 1) := by decide +kernel
theorem dX8_isRow_0 : decode cX8_isRow 0 = .ok (.iload_n 1, 1) := by decide +kernel
theorem dX8_isRow_1 : decode cX8_isRow 1 = .ok (.iconst 0, 1) := by decide +kernel
theorem dX8_isRow_2 : decode cX8_isRow 2 = .ok (.aload_n 0, 1) := by decide +kernel
theorem dX8_isRow_3 : decode cX8_isRow 3 = .ok (.getfield 64, 3) := by decide +kernel
theorem dX8_isRow_6 : decode cX8_isRow 6 = .ok (.iconst 1, 1) := by decide +kernel
theorem dX8_isRow_7 : decode cX8_isRow 7 = .ok (.isub, 1) := by decide +kernel
theorem dX8_isRow_8 : decode cX8_isRow 8 = .ok (.invokestatic 60, 3) := by decide +kernel
theorem dX8_isRow_11 : decode cX8_isRow 11 = .ok (.ireturn, 1) := by decide +kernel
theorem dX8_anew_0 : decode cX8_anew 0 = .ok (.iconst 0, 1) := by decide +kernel
theorem dX8_anew_1 : decode cX8_anew 1 = .ok (.istore_n 1, 1) := by decide +kernel
theorem dX8_anew_2 : decode cX8_anew 2 = .ok (.iload_n 1, 1) := by decide +kernel
theorem dX8_anew_3 : decode cX8_anew 3 = .ok (.sipush 512, 3) := by decide +kernel
theorem dX8_anew_6 : decode cX8_anew 6 = .ok (.if_icmp .ge 21, 3) := by decide +kernel
theorem dX8_anew_9 : decode cX8_anew 9 = .ok (.aload_n 0, 1) := by decide +kernel
theorem dX8_anew_10 : decode cX8_anew 10 = .ok (.getfield 13, 3) := by decide +kernel
theorem dX8_anew_13 : decode cX8_anew 13 = .ok (.iload_n 1, 1) := by decide +kernel
theorem dX8_anew_14 : decode cX8_anew 14 = .ok (.aload_n 0, 1) := by decide +kernel
theorem dX8_anew_15 : decode cX8_anew 15 = .ok (.getfield 7, 3) := by decide +kernel
theorem dX8_anew_18 : decode cX8_anew 18 = .ok (.iload_n 1, 1) := by decide +kernel
theorem dX8_anew_19 : decode cX8_anew 19 = .ok (.baload, 1) := by decide +kernel
theorem dX8_anew_20 : decode cX8_anew 20 = .ok (.bastore, 1) := by decide +kernel
theorem dX8_anew_21 : decode cX8_anew 21 = .ok (.iinc 1 1, 3) := by decide +kernel
theorem dX8_anew_24 : decode cX8_anew 24 = .ok (.goto (-22), 3) := by decide +kernel
theorem dX8_anew_27 : decode cX8_anew 27 = .ok (.aload_n 0, 1) := by decide +kernel
theorem dX8_anew_28 : decode cX8_anew 28 = .ok (.iconst 0, 1) := by decide +kernel
theorem dX8_anew_29 : decode cX8_anew 29 = .ok (.putfield 67, 3) := by decide +kernel
theorem dX8_anew_32 : decode cX8_anew 32 = .ok (.aload_n 0, 1) := by decide +kernel
theorem dX8_anew_33 : decode cX8_anew 33 = .ok (.sipush (-1000), 3) := by decide +kernel
theorem dX8_anew_36 : decode cX8_anew 36 = .ok (.putfield 29, 3) := by decide +kernel
theorem dX8_anew_39 : decode cX8_anew 39 = .ok (.aload_n 0, 1) := by decide +kernel
theorem dX8_anew_40 : decode cX8_anew 40 = .ok (.iconst 0, 1) := by decide +kernel
theorem dX8_anew_41 : decode cX8_anew 41 = .ok (.putfield 70, 3) := by decide +kernel
theorem dX8_anew_44 : decode cX8_anew 44 = .ok (.return_, 1) := by decide +kernel
theorem dX8_name_0 : decode cX8_name 0 = .ok (.iload_n 1, 1) := by decide +kernel
theorem dX8_name_1 : decode cX8_name 1 = .ok (.bipush (-32), 2) := by decide +kernel
theorem dX8_name_3 : decode cX8_name 3 = .ok (.bipush 31, 2) := by decide +kernel
theorem dX8_name_5 : decode cX8_name 5 = .ok (.invokestatic 60, 3) := by decide +kernel
theorem dX8_name_8 : decode cX8_name 8 = .ok (.ifCond .eq 13, 3) := by decide +kernel
theorem dX8_name_11 : decode cX8_name 11 = .ok (.iload_n 2, 1) := by decide +kernel
theorem dX8_name_12 : decode cX8_name 12 = .ok (.iload_n 1, 1) := by decide +kernel
theorem dX8_name_13 : decode cX8_name 13 = .ok (.bipush 31, 2) := by decide +kernel
theorem dX8_name_15 : decode cX8_name 15 = .ok (.invokestatic 60, 3) := by decide +kernel
theorem dX8_name_18 : decode cX8_name 18 = .ok (.ifCond .ne 7, 3) := by decide +kernel
theorem dX8_name_21 : decode cX8_name 21 = .ok (.sipush (-1001), 3) := by decide +kernel
theorem dX8_name_24 : decode cX8_name 24 = .ok (.ireturn, 1) := by decide +kernel
theorem dX8_name_25 : decode cX8_name 25 = .ok (.aload_n 0, 1) := by decide +kernel
theorem dX8_name_26 : decode cX8_name 26 = .ok (.getfield 57, 3) := by decide +kernel
theorem dX8_name_29 : decode cX8_name 29 = .ok (.bipush 8, 2) := by decide +kernel
theorem dX8_name_31 : decode cX8_name 31 = .ok (.if_icmp .ne 7, 3) := by decide +kernel
theorem dX8_name_34 : decode cX8_name 34 = .ok (.sipush (-1003), 3) := by decide +kernel
theorem dX8_name_37 : decode cX8_name 37 = .ok (.ireturn, 1) := by decide +kernel
theorem dX8_name_38 : decode cX8_name 38 = .ok (.bipush (-32), 2) := by decide +kernel
theorem dX8_name_40 : decode cX8_name 40 = .ok (.istore_n 3, 1) := by decide +kernel
theorem dX8_name_41 : decode cX8_name 41 = .ok (.iload_n 3, 1) := by decide +kernel
theorem dX8_name_42 : decode cX8_name 42 = .ok (.bipush 31, 2) := by decide +kernel
theorem dX8_name_44 : decode cX8_name 44 = .ok (.if_icmp .gt 32, 3) := by decide +kernel
theorem dX8_name_47 : decode cX8_name 47 = .ok (.aload_n 0, 1) := by decide +kernel
theorem dX8_name_48 : decode cX8_name 48 = .ok (.getfield 7, 3) := by decide +kernel
theorem dX8_name_51 : decode cX8_name 51 = .ok (.bipush 64, 2) := by decide +kernel
theorem dX8_name_53 : decode cX8_name 53 = .ok (.aload_n 0, 1) := by decide +kernel
theorem dX8_name_54 : decode cX8_name 54 = .ok (.getfield 57, 3) := by decide +kernel
theorem dX8_name_57 : decode cX8_name 57 = .ok (.imul, 1) := by decide +kernel
theorem dX8_name_58 : decode cX8_name 58 = .ok (.iload_n 3, 1) := by decide +kernel
theorem dX8_name_59 : decode cX8_name 59 = .ok (.iadd, 1) := by decide +kernel
theorem dX8_name_60 : decode cX8_name 60 = .ok (.bipush 32, 2) := by decide +kernel
theorem dX8_name_62 : decode cX8_name 62 = .ok (.iadd, 1) := by decide +kernel
theorem dX8_name_63 : decode cX8_name 63 = .ok (.iload_n 3, 1) := by decide +kernel
theorem dX8_name_64 : decode cX8_name 64 = .ok (.iload_n 1, 1) := by decide +kernel
theorem dX8_name_65 : decode cX8_name 65 = .ok (.iload_n 2, 1) := by decide +kernel
theorem dX8_name_66 : decode cX8_name 66 = .ok (.invokestatic 60, 3) := by decide +kernel
theorem dX8_name_69 : decode cX8_name 69 = .ok (.bastore, 1) := by decide +kernel
theorem dX8_name_70 : decode cX8_name 70 = .ok (.iinc 3 1, 3) := by decide +kernel
theorem dX8_name_73 : decode cX8_name 73 = .ok (.goto (-32), 3) := by decide +kernel
theorem dX8_name_76 : decode cX8_name 76 = .ok (.iconst 0, 1) := by decide +kernel
theorem dX8_name_77 : decode cX8_name 77 = .ok (.istore_n 3, 1) := by decide +kernel
theorem dX8_name_78 : decode cX8_name 78 = .ok (.iload_n 3, 1) := by decide +kernel
theorem dX8_name_79 : decode cX8_name 79 = .ok (.bipush 12, 2) := by decide +kernel
theorem dX8_name_81 : decode cX8_name 81 = .ok (.if_icmp .ge 24, 3) := by decide +kernel
theorem dX8_name_84 : decode cX8_name 84 = .ok (.aload_n 0, 1) := by decide +kernel
theorem dX8_name_85 : decode cX8_name 85 = .ok (.getfield 26, 3) := by decide +kernel
theorem dX8_name_88 : decode cX8_name 88 = .ok (.bipush 8, 2) := by decide +kernel
theorem dX8_name_90 : decode cX8_name 90 = .ok (.iload_n 3, 1) := by decide +kernel
theorem dX8_name_91 : decode cX8_name 91 = .ok (.imul, 1) := by decide +kernel
theorem dX8_name_92 : decode cX8_name 92 = .ok (.aload_n 0, 1) := by decide +kernel
theorem dX8_name_93 : decode cX8_name 93 = .ok (.getfield 57, 3) := by decide +kernel
theorem dX8_name_96 : decode cX8_name 96 = .ok (.iadd, 1) := by decide +kernel
theorem dX8_name_97 : decode cX8_name 97 = .ok (.iconst 0, 1) := by decide +kernel
theorem dX8_name_98 : decode cX8_name 98 = .ok (.iastore, 1) := by decide +kernel
theorem dX8_name_99 : decode cX8_name 99 = .ok (.iinc 3 1, 3) := by decide +kernel
theorem dX8_name_102 : decode cX8_name 102 = .ok (.goto (-24), 3) := by decide +kernel
theorem dX8_name_105 : decode cX8_name 105 = .ok (.aload_n 0, 1) := by decide +kernel
theorem dX8_name_106 : decode cX8_name 106 = .ok (.dup, 1) := by decide +kernel
theorem dX8_name_107 : decode cX8_name 107 = .ok (.getfield 57, 3) := by decide +kernel
theorem dX8_name_110 : decode cX8_name 110 = .ok (.iconst 1, 1) := by decide +kernel
theorem dX8_name_111 : decode cX8_name 111 = .ok (.iadd, 1) := by decide +kernel
theorem dX8_name_112 : decode cX8_name 112 = .ok (.putfield 57, 3) := by decide +kernel
theorem dX8_name_115 : decode cX8_name 115 = .ok (.aload_n 0, 1) := by decide +kernel
theorem dX8_name_116 : decode cX8_name 116 = .ok (.invokevirtual 73, 3) := by decide +kernel
theorem dX8_name_119 : decode cX8_name 119 = .ok (.aload_n 0, 1) := by decide +kernel
theorem dX8_name_120 : decode cX8_name 120 = .ok (.getfield 57, 3) := by decide +kernel
theorem dX8_name_123 : decode cX8_name 123 = .ok (.iconst 1, 1) := by decide +kernel
theorem dX8_name_124 : decode cX8_name 124 = .ok (.isub, 1) := by decide +kernel
theorem dX8_name_125 : decode cX8_name 125 = .ok (.ireturn, 1) := by decide +kernel
theorem dX8_many_0 : decode cX8_many 0 = .ok (.iconst 0, 1) := by decide +kernel
theorem dX8_many_1 : decode cX8_many 1 = .ok (.istore_n 3, 1) := by decide +kernel
theorem dX8_many_2 : decode cX8_many 2 = .ok (.iconst 0, 1) := by decide +kernel
theorem dX8_many_3 : decode cX8_many 3 = .ok (.istore 4, 2) := by decide +kernel
theorem dX8_many_5 : decode cX8_many 5 = .ok (.iload 4, 2) := by decide +kernel
theorem dX8_many_7 : decode cX8_many 7 = .ok (.bipush 64, 2) := by decide +kernel
theorem dX8_many_9 : decode cX8_many 9 = .ok (.if_icmp .ge 54, 3) := by decide +kernel
theorem dX8_many_12 : decode cX8_many 12 = .ok (.iload_n 3, 1) := by decide +kernel
theorem dX8_many_13 : decode cX8_many 13 = .ok (.iload_n 2, 1) := by decide +kernel
theorem dX8_many_14 : decode cX8_many 14 = .ok (.ifCond .eq 21, 3) := by decide +kernel
theorem dX8_many_17 : decode cX8_many 17 = .ok (.aload_n 0, 1) := by decide +kernel
theorem dX8_many_18 : decode cX8_many 18 = .ok (.getfield 7, 3) := by decide +kernel
theorem dX8_many_21 : decode cX8_many 21 = .ok (.bipush 64, 2) := by decide +kernel
theorem dX8_many_23 : decode cX8_many 23 = .ok (.iload_n 1, 1) := by decide +kernel
theorem dX8_many_24 : decode cX8_many 24 = .ok (.imul, 1) := by decide +kernel
theorem dX8_many_25 : decode cX8_many 25 = .ok (.iload 4, 2) := by decide +kernel
theorem dX8_many_27 : decode cX8_many 27 = .ok (.iadd, 1) := by decide +kernel
theorem dX8_many_28 : decode cX8_many 28 = .ok (.baload, 1) := by decide +kernel
theorem dX8_many_29 : decode cX8_many 29 = .ok (.ifCond .eq 25, 3) := by decide +kernel
theorem dX8_many_32 : decode cX8_many 32 = .ok (.goto 18, 3) := by decide +kernel
theorem dX8_many_35 : decode cX8_many 35 = .ok (.aload_n 0, 1) := by decide +kernel
theorem dX8_many_36 : decode cX8_many 36 = .ok (.getfield 13, 3) := by decide +kernel
theorem dX8_many_39 : decode cX8_many 39 = .ok (.bipush 64, 2) := by decide +kernel
theorem dX8_many_41 : decode cX8_many 41 = .ok (.iload_n 1, 1) := by decide +kernel
theorem dX8_many_42 : decode cX8_many 42 = .ok (.imul, 1) := by decide +kernel
theorem dX8_many_43 : decode cX8_many 43 = .ok (.iload 4, 2) := by decide +kernel
theorem dX8_many_45 : decode cX8_many 45 = .ok (.iadd, 1) := by decide +kernel
theorem dX8_many_46 : decode cX8_many 46 = .ok (.baload, 1) := by decide +kernel
theorem dX8_many_47 : decode cX8_many 47 = .ok (.ifCond .eq 7, 3) := by decide +kernel
theorem dX8_many_50 : decode cX8_many 50 = .ok (.iconst 1, 1) := by decide +kernel
theorem dX8_many_51 : decode cX8_many 51 = .ok (.goto 4, 3) := by decide +kernel
theorem dX8_many_54 : decode cX8_many 54 = .ok (.iconst 0, 1) := by decide +kernel
theorem dX8_many_55 : decode cX8_many 55 = .ok (.iadd, 1) := by decide +kernel
theorem dX8_many_56 : decode cX8_many 56 = .ok (.istore_n 3, 1) := by decide +kernel
theorem dX8_many_57 : decode cX8_many 57 = .ok (.iinc 4 1, 3) := by decide +kernel
theorem dX8_many_60 : decode cX8_many 60 = .ok (.goto (-55), 3) := by decide +kernel
theorem dX8_many_63 : decode cX8_many 63 = .ok (.iload_n 3, 1) := by decide +kernel
theorem dX8_many_64 : decode cX8_many 64 = .ok (.ireturn, 1) := by decide +kernel
theorem dX8_leave_0 : decode cX8_leave 0 = .ok (.aload_n 0, 1) := by decide +kernel
theorem dX8_leave_1 : decode cX8_leave 1 = .ok (.iload_n 1, 1) := by decide +kernel
theorem dX8_leave_2 : decode cX8_leave 2 = .ok (.invokevirtual 76, 3) := by decide +kernel
theorem dX8_leave_5 : decode cX8_leave 5 = .ok (.ifCond .eq 14, 3) := by decide +kernel
theorem dX8_leave_8 : decode cX8_leave 8 = .ok (.iload_n 2, 1) := by decide +kernel
theorem dX8_leave_9 : decode cX8_leave 9 = .ok (.bipush (-32), 2) := by decide +kernel
theorem dX8_leave_11 : decode cX8_leave 11 = .ok (.bipush 31, 2) := by decide +kernel
theorem dX8_leave_13 : decode cX8_leave 13 = .ok (.invokestatic 60, 3) := by decide +kernel
theorem dX8_leave_16 : decode cX8_leave 16 = .ok (.ifCond .ne 7, 3) := by decide +kernel
theorem dX8_leave_19 : decode cX8_leave 19 = .ok (.sipush (-1001), 3) := by decide +kernel
theorem dX8_leave_22 : decode cX8_leave 22 = .ok (.ireturn, 1) := by decide +kernel
theorem dX8_leave_23 : decode cX8_leave 23 = .ok (.aload_n 0, 1) := by decide +kernel
theorem dX8_leave_24 : decode cX8_leave 24 = .ok (.getfield 7, 3) := by decide +kernel
theorem dX8_leave_27 : decode cX8_leave 27 = .ok (.bipush 64, 2) := by decide +kernel
theorem dX8_leave_29 : decode cX8_leave 29 = .ok (.iload_n 1, 1) := by decide +kernel
theorem dX8_leave_30 : decode cX8_leave 30 = .ok (.imul, 1) := by decide +kernel
theorem dX8_leave_31 : decode cX8_leave 31 = .ok (.iload_n 2, 1) := by decide +kernel
theorem dX8_leave_32 : decode cX8_leave 32 = .ok (.iadd, 1) := by decide +kernel
theorem dX8_leave_33 : decode cX8_leave 33 = .ok (.bipush 32, 2) := by decide +kernel
theorem dX8_leave_35 : decode cX8_leave 35 = .ok (.iadd, 1) := by decide +kernel
theorem dX8_leave_36 : decode cX8_leave 36 = .ok (.baload, 1) := by decide +kernel
theorem dX8_leave_37 : decode cX8_leave 37 = .ok (.istore_n 3, 1) := by decide +kernel
theorem dX8_leave_38 : decode cX8_leave 38 = .ok (.iload_n 3, 1) := by decide +kernel
theorem dX8_leave_39 : decode cX8_leave 39 = .ok (.ifCond .eq 17, 3) := by decide +kernel
theorem dX8_leave_42 : decode cX8_leave 42 = .ok (.aload_n 0, 1) := by decide +kernel
theorem dX8_leave_43 : decode cX8_leave 43 = .ok (.iload_n 1, 1) := by decide +kernel
theorem dX8_leave_44 : decode cX8_leave 44 = .ok (.iconst 1, 1) := by decide +kernel
theorem dX8_leave_45 : decode cX8_leave 45 = .ok (.invokevirtual 80, 3) := by decide +kernel
theorem dX8_leave_48 : decode cX8_leave 48 = .ok (.iconst 1, 1) := by decide +kernel
theorem dX8_leave_49 : decode cX8_leave 49 = .ok (.if_icmp .ne 7, 3) := by decide +kernel
theorem dX8_leave_52 : decode cX8_leave 52 = .ok (.sipush (-1002), 3) := by decide +kernel
theorem dX8_leave_55 : decode cX8_leave 55 = .ok (.ireturn, 1) := by decide +kernel
theorem dX8_leave_56 : decode cX8_leave 56 = .ok (.aload_n 0, 1) := by decide +kernel
theorem dX8_leave_57 : decode cX8_leave 57 = .ok (.getfield 7, 3) := by decide +kernel
theorem dX8_leave_60 : decode cX8_leave 60 = .ok (.bipush 64, 2) := by decide +kernel
theorem dX8_leave_62 : decode cX8_leave 62 = .ok (.iload_n 1, 1) := by decide +kernel
theorem dX8_leave_63 : decode cX8_leave 63 = .ok (.imul, 1) := by decide +kernel
theorem dX8_leave_64 : decode cX8_leave 64 = .ok (.iload_n 2, 1) := by decide +kernel
theorem dX8_leave_65 : decode cX8_leave 65 = .ok (.iadd, 1) := by decide +kernel
theorem dX8_leave_66 : decode cX8_leave 66 = .ok (.bipush 32, 2) := by decide +kernel
theorem dX8_leave_68 : decode cX8_leave 68 = .ok (.iadd, 1) := by decide +kernel
theorem dX8_leave_69 : decode cX8_leave 69 = .ok (.iconst 0, 1) := by decide +kernel
theorem dX8_leave_70 : decode cX8_leave 70 = .ok (.bastore, 1) := by decide +kernel
theorem dX8_leave_71 : decode cX8_leave 71 = .ok (.aload_n 0, 1) := by decide +kernel
theorem dX8_leave_72 : decode cX8_leave 72 = .ok (.invokevirtual 73, 3) := by decide +kernel
theorem dX8_leave_75 : decode cX8_leave 75 = .ok (.iload_n 3, 1) := by decide +kernel
theorem dX8_leave_76 : decode cX8_leave 76 = .ok (.ifCond .eq 7, 3) := by decide +kernel
theorem dX8_leave_79 : decode cX8_leave 79 = .ok (.iconst 1, 1) := by decide +kernel
theorem dX8_leave_80 : decode cX8_leave 80 = .ok (.goto 4, 3) := by decide +kernel
theorem dX8_leave_83 : decode cX8_leave 83 = .ok (.iconst 0, 1) := by decide +kernel
theorem dX8_leave_84 : decode cX8_leave 84 = .ok (.ireturn, 1) := by decide +kernel
theorem dX8_owns_0 : decode cX8_owns 0 = .ok (.iload_n 0, 1) := by decide +kernel
theorem dX8_owns_1 : decode cX8_owns 1 = .ok (.iconst 2, 1) := by decide +kernel
theorem dX8_owns_2 : decode cX8_owns 2 = .ok (.if_icmp .ge 7, 3) := by decide +kernel
theorem dX8_owns_5 : decode cX8_owns 5 = .ok (.iconst 0, 1) := by decide +kernel
theorem dX8_owns_6 : decode cX8_owns 6 = .ok (.goto 35, 3) := by decide +kernel
theorem dX8_owns_9 : decode cX8_owns 9 = .ok (.iload_n 0, 1) := by decide +kernel
theorem dX8_owns_10 : decode cX8_owns 10 = .ok (.iconst 4, 1) := by decide +kernel
theorem dX8_owns_11 : decode cX8_owns 11 = .ok (.if_icmp .eq 9, 3) := by decide +kernel
theorem dX8_owns_14 : decode cX8_owns 14 = .ok (.iload_n 0, 1) := by decide +kernel
theorem dX8_owns_15 : decode cX8_owns 15 = .ok (.bipush 7, 2) := by decide +kernel
theorem dX8_owns_17 : decode cX8_owns 17 = .ok (.if_icmp .ne 7, 3) := by decide +kernel
theorem dX8_owns_20 : decode cX8_owns 20 = .ok (.iconst 2, 1) := by decide +kernel
theorem dX8_owns_21 : decode cX8_owns 21 = .ok (.goto 20, 3) := by decide +kernel
theorem dX8_owns_24 : decode cX8_owns 24 = .ok (.iload_n 0, 1) := by decide +kernel
theorem dX8_owns_25 : decode cX8_owns 25 = .ok (.bipush 8, 2) := by decide +kernel
theorem dX8_owns_27 : decode cX8_owns 27 = .ok (.if_icmp .eq 9, 3) := by decide +kernel
theorem dX8_owns_30 : decode cX8_owns 30 = .ok (.iload_n 0, 1) := by decide +kernel
theorem dX8_owns_31 : decode cX8_owns 31 = .ok (.bipush 9, 2) := by decide +kernel
theorem dX8_owns_33 : decode cX8_owns 33 = .ok (.if_icmp .ne 7, 3) := by decide +kernel
theorem dX8_owns_36 : decode cX8_owns 36 = .ok (.iconst 1, 1) := by decide +kernel
theorem dX8_owns_37 : decode cX8_owns 37 = .ok (.goto 4, 3) := by decide +kernel
theorem dX8_owns_40 : decode cX8_owns 40 = .ok (.iconst 3, 1) := by decide +kernel
theorem dX8_owns_41 : decode cX8_owns 41 = .ok (.ireturn, 1) := by decide +kernel
theorem dX8_hasFactors_0 : decode cX8_hasFactors 0 = .ok (.iload_n 0, 1) := by decide +kernel
theorem dX8_hasFactors_1 : decode cX8_hasFactors 1 = .ok (.iconst 2, 1) := by decide +kernel
theorem dX8_hasFactors_2 : decode cX8_hasFactors 2 = .ok (.if_icmp .lt 9, 3) := by decide +kernel
theorem dX8_hasFactors_5 : decode cX8_hasFactors 5 = .ok (.iload_n 0, 1) := by decide +kernel
theorem dX8_hasFactors_6 : decode cX8_hasFactors 6 = .ok (.bipush 7, 2) := by decide +kernel
theorem dX8_hasFactors_8 : decode cX8_hasFactors 8 = .ok (.if_icmp .le 7, 3) := by decide +kernel
theorem dX8_hasFactors_11 : decode cX8_hasFactors 11 = .ok (.iconst 1, 1) := by decide +kernel
theorem dX8_hasFactors_12 : decode cX8_hasFactors 12 = .ok (.goto 4, 3) := by decide +kernel
theorem dX8_hasFactors_15 : decode cX8_hasFactors 15 = .ok (.iconst 0, 1) := by decide +kernel
theorem dX8_hasFactors_16 : decode cX8_hasFactors 16 = .ok (.ireturn, 1) := by decide +kernel
