theorem dM_init_0 : decode cM_init 0 = .ok (.aload_n 0, 1) := by decide +kernel
theorem dM_init_1 : decode cM_init 1 = .ok (.invokespecial 1, 3) := by decide +kernel
theorem dM_init_4 : decode cM_init 4 = .ok (.aload_n 0, 1) := by decide +kernel
theorem dM_init_5 : decode cM_init 5 = .ok (.bipush 8, 2) := by decide +kernel
theorem dM_init_7 : decode cM_init 7 = .ok (.newarray .int, 2) := by decide +kernel
theorem dM_init_9 : decode cM_init 9 = .ok (.putfield 7, 3) := by decide +kernel
theorem dM_init_12 : decode cM_init 12 = .ok (.aload_n 0, 1) := by decide +kernel
theorem dM_init_13 : decode cM_init 13 = .ok (.sipush 320, 3) := by decide +kernel
theorem dM_init_16 : decode cM_init 16 = .ok (.newarray .int, 2) := by decide +kernel
theorem dM_init_18 : decode cM_init 18 = .ok (.putfield 13, 3) := by decide +kernel
theorem dM_init_21 : decode cM_init 21 = .ok (.aload_n 0, 1) := by decide +kernel
theorem dM_init_22 : decode cM_init 22 = .ok (.sipush 320, 3) := by decide +kernel
theorem dM_init_25 : decode cM_init 25 = .ok (.newarray .int, 2) := by decide +kernel
theorem dM_init_27 : decode cM_init 27 = .ok (.putfield 16, 3) := by decide +kernel
theorem dM_init_30 : decode cM_init 30 = .ok (.aload_n 0, 1) := by decide +kernel
theorem dM_init_31 : decode cM_init 31 = .ok (.sipush 320, 3) := by decide +kernel
theorem dM_init_34 : decode cM_init 34 = .ok (.newarray .boolean, 2) := by decide +kernel
theorem dM_init_36 : decode cM_init 36 = .ok (.putfield 19, 3) := by decide +kernel
theorem dM_init_39 : decode cM_init 39 = .ok (.aload_n 0, 1) := by decide +kernel
theorem dM_init_40 : decode cM_init 40 = .ok (.bipush 8, 2) := by decide +kernel
theorem dM_init_42 : decode cM_init 42 = .ok (.newarray .boolean, 2) := by decide +kernel
theorem dM_init_44 : decode cM_init 44 = .ok (.putfield 23, 3) := by decide +kernel
theorem dM_init_47 : decode cM_init 47 = .ok (.aload_n 0, 1) := by decide +kernel
theorem dM_init_48 : decode cM_init 48 = .ok (.bipush 14, 2) := by decide +kernel
theorem dM_init_50 : decode cM_init 50 = .ok (.newarray .int, 2) := by decide +kernel
theorem dM_init_52 : decode cM_init 52 = .ok (.putfield 26, 3) := by decide +kernel
theorem dM_init_55 : decode cM_init 55 = .ok (.aload_n 0, 1) := by decide +kernel
theorem dM_init_56 : decode cM_init 56 = .ok (.bipush 14, 2) := by decide +kernel
theorem dM_init_58 : decode cM_init 58 = .ok (.newarray .int, 2) := by decide +kernel
theorem dM_init_60 : decode cM_init 60 = .ok (.putfield 29, 3) := by decide +kernel
theorem dM_init_63 : decode cM_init 63 = .ok (.aload_n 0, 1) := by decide +kernel
theorem dM_init_64 : decode cM_init 64 = .ok (.bipush 14, 2) := by decide +kernel
theorem dM_init_66 : decode cM_init 66 = .ok (.newarray .long, 2) := by decide +kernel
theorem dM_init_68 : decode cM_init 68 = .ok (.putfield 32, 3) := by decide +kernel
theorem dM_init_71 : decode cM_init 71 = .ok (.aload_n 0, 1) := by decide +kernel
theorem dM_init_72 : decode cM_init 72 = .ok (.sipush 1681, 3) := by decide +kernel
theorem dM_init_75 : decode cM_init 75 = .ok (.newarray .int, 2) := by decide +kernel
theorem dM_init_77 : decode cM_init 77 = .ok (.putfield 36, 3) := by decide +kernel
theorem dM_init_80 : decode cM_init 80 = .ok (.aload_n 0, 1) := by decide +kernel
theorem dM_init_81 : decode cM_init 81 = .ok (.bipush 40, 2) := by decide +kernel
theorem dM_init_83 : decode cM_init 83 = .ok (.newarray .int, 2) := by decide +kernel
theorem dM_init_85 : decode cM_init 85 = .ok (.putfield 39, 3) := by decide +kernel
theorem dM_init_88 : decode cM_init 88 = .ok (.return_, 1) := by decide +kernel
theorem dM_edition_0 : decode cM_edition 0 = .ok (.aload_n 0, 1) := by decide +kernel
theorem dM_edition_1 : decode cM_edition 1 = .ok (.getfield 42, 3) := by decide +kernel
theorem dM_edition_4 : decode cM_edition 4 = .ok (.bipush 8, 2) := by decide +kernel
theorem dM_edition_6 : decode cM_edition 6 = .ok (.if_icmp .ne 5, 3) := by decide +kernel
theorem dM_edition_9 : decode cM_edition 9 = .ok (.iconst (-1), 1) := by decide +kernel
theorem dM_edition_10 : decode cM_edition 10 = .ok (.ireturn, 1) := by decide +kernel
theorem dM_edition_11 : decode cM_edition 11 = .ok (.aload_n 0, 1) := by decide +kernel
theorem dM_edition_12 : decode cM_edition 12 = .ok (.dup, 1) := by decide +kernel
theorem dM_edition_13 : decode cM_edition 13 = .ok (.getfield 42, 3) := by decide +kernel
theorem dM_edition_16 : decode cM_edition 16 = .ok (.iconst 1, 1) := by decide +kernel
theorem dM_edition_17 : decode cM_edition 17 = .ok (.iadd, 1) := by decide +kernel
theorem dM_edition_18 : decode cM_edition 18 = .ok (.putfield 42, 3) := by decide +kernel
theorem dM_edition_21 : decode cM_edition 21 = .ok (.aload_n 0, 1) := by decide +kernel
theorem dM_edition_22 : decode cM_edition 22 = .ok (.getfield 42, 3) := by decide +kernel
theorem dM_edition_25 : decode cM_edition 25 = .ok (.iconst 1, 1) := by decide +kernel
theorem dM_edition_26 : decode cM_edition 26 = .ok (.isub, 1) := by decide +kernel
theorem dM_edition_27 : decode cM_edition 27 = .ok (.ireturn, 1) := by decide +kernel
theorem dM_line_0 : decode cM_line 0 = .ok (.iload_n 1, 1) := by decide +kernel
theorem dM_line_1 : decode cM_line 1 = .ok (.aload_n 0, 1) := by decide +kernel
theorem dM_line_2 : decode cM_line 2 = .ok (.getfield 42, 3) := by decide +kernel
theorem dM_line_5 : decode cM_line 5 = .ok (.invokestatic 46, 3) := by decide +kernel
theorem dM_line_8 : decode cM_line 8 = .ok (.ifCond .eq 31, 3) := by decide +kernel
theorem dM_line_11 : decode cM_line 11 = .ok (.iload_n 3, 1) := by decide +kernel
theorem dM_line_12 : decode cM_line 12 = .ok (.iconst 4, 1) := by decide +kernel
theorem dM_line_13 : decode cM_line 13 = .ok (.invokestatic 46, 3) := by decide +kernel
theorem dM_line_16 : decode cM_line 16 = .ok (.ifCond .eq 23, 3) := by decide +kernel
theorem dM_line_19 : decode cM_line 19 = .ok (.aload_n 0, 1) := by decide +kernel
theorem dM_line_20 : decode cM_line 20 = .ok (.getfield 23, 3) := by decide +kernel
theorem dM_line_23 : decode cM_line 23 = .ok (.iload_n 1, 1) := by decide +kernel
theorem dM_line_24 : decode cM_line 24 = .ok (.baload, 1) := by decide +kernel
theorem dM_line_25 : decode cM_line 25 = .ok (.ifCond .ne 14, 3) := by decide +kernel
theorem dM_line_28 : decode cM_line 28 = .ok (.aload_n 0, 1) := by decide +kernel
theorem dM_line_29 : decode cM_line 29 = .ok (.getfield 7, 3) := by decide +kernel
theorem dM_line_32 : decode cM_line 32 = .ok (.iload_n 1, 1) := by decide +kernel
theorem dM_line_33 : decode cM_line 33 = .ok (.iaload, 1) := by decide +kernel
theorem dM_line_34 : decode cM_line 34 = .ok (.bipush 40, 2) := by decide +kernel
theorem dM_line_36 : decode cM_line 36 = .ok (.if_icmp .ne 5, 3) := by decide +kernel
theorem dM_line_39 : decode cM_line 39 = .ok (.iconst (-1), 1) := by decide +kernel
theorem dM_line_40 : decode cM_line 40 = .ok (.ireturn, 1) := by decide +kernel
theorem dM_line_41 : decode cM_line 41 = .ok (.bipush 40, 2) := by decide +kernel
theorem dM_line_43 : decode cM_line 43 = .ok (.iload_n 1, 1) := by decide +kernel
theorem dM_line_44 : decode cM_line 44 = .ok (.imul, 1) := by decide +kernel
theorem dM_line_45 : decode cM_line 45 = .ok (.aload_n 0, 1) := by decide +kernel
theorem dM_line_46 : decode cM_line 46 = .ok (.getfield 7, 3) := by decide +kernel
theorem dM_line_49 : decode cM_line 49 = .ok (.iload_n 1, 1) := by decide +kernel
theorem dM_line_50 : decode cM_line 50 = .ok (.iaload, 1) := by decide +kernel
theorem dM_line_51 : decode cM_line 51 = .ok (.iadd, 1) := by decide +kernel
theorem dM_line_52 : decode cM_line 52 = .ok (.istore 5, 2) := by decide +kernel
theorem dM_line_54 : decode cM_line 54 = .ok (.aload_n 0, 1) := by decide +kernel
theorem dM_line_55 : decode cM_line 55 = .ok (.getfield 13, 3) := by decide +kernel
theorem dM_line_58 : decode cM_line 58 = .ok (.iload 5, 2) := by decide +kernel
theorem dM_line_60 : decode cM_line 60 = .ok (.iload_n 2, 1) := by decide +kernel
theorem dM_line_61 : decode cM_line 61 = .ok (.iastore, 1) := by decide +kernel
theorem dM_line_62 : decode cM_line 62 = .ok (.aload_n 0, 1) := by decide +kernel
theorem dM_line_63 : decode cM_line 63 = .ok (.getfield 16, 3) := by decide +kernel
theorem dM_line_66 : decode cM_line 66 = .ok (.iload 5, 2) := by decide +kernel
theorem dM_line_68 : decode cM_line 68 = .ok (.iload_n 3, 1) := by decide +kernel
theorem dM_line_69 : decode cM_line 69 = .ok (.iastore, 1) := by decide +kernel
theorem dM_line_70 : decode cM_line 70 = .ok (.aload_n 0, 1) := by decide +kernel
theorem dM_line_71 : decode cM_line 71 = .ok (.getfield 19, 3) := by decide +kernel
theorem dM_line_74 : decode cM_line 74 = .ok (.iload 5, 2) := by decide +kernel
theorem dM_line_76 : decode cM_line 76 = .ok (.iload 4, 2) := by decide +kernel
theorem dM_line_78 : decode cM_line 78 = .ok (.bastore, 1) := by decide +kernel
theorem dM_line_79 : decode cM_line 79 = .ok (.aload_n 0, 1) := by decide +kernel
theorem dM_line_80 : decode cM_line 80 = .ok (.getfield 7, 3) := by decide +kernel
theorem dM_line_83 : decode cM_line 83 = .ok (.iload_n 1, 1) := by decide +kernel
theorem dM_line_84 : decode cM_line 84 = .ok (.dup2, 1) := by decide +kernel
theorem dM_line_85 : decode cM_line 85 = .ok (.iaload, 1) := by decide +kernel
theorem dM_line_86 : decode cM_line 86 = .ok (.iconst 1, 1) := by decide +kernel
theorem dM_line_87 : decode cM_line 87 = .ok (.iadd, 1) := by decide +kernel
theorem dM_line_88 : decode cM_line 88 = .ok (.iastore, 1) := by decide +kernel
theorem dM_line_89 : decode cM_line 89 = .ok (.aload_n 0, 1) := by decide +kernel
theorem dM_line_90 : decode cM_line 90 = .ok (.getfield 7, 3) := by decide +kernel
theorem dM_line_93 : decode cM_line 93 = .ok (.iload_n 1, 1) := by decide +kernel
theorem dM_line_94 : decode cM_line 94 = .ok (.iaload, 1) := by decide +kernel
theorem dM_line_95 : decode cM_line 95 = .ok (.iconst 1, 1) := by decide +kernel
theorem dM_line_96 : decode cM_line 96 = .ok (.isub, 1) := by decide +kernel
theorem dM_line_97 : decode cM_line 97 = .ok (.ireturn, 1) := by decide +kernel
theorem dM_in_0 : decode cM_in 0 = .ok (.iload_n 0, 1) := by decide +kernel
theorem dM_in_1 : decode cM_in 1 = .ok (.ifCond .lt 12, 3) := by decide +kernel
theorem dM_in_4 : decode cM_in 4 = .ok (.iload_n 0, 1) := by decide +kernel
theorem dM_in_5 : decode cM_in 5 = .ok (.iload_n 1, 1) := by decide +kernel
theorem dM_in_6 : decode cM_in 6 = .ok (.if_icmp .ge 7, 3) := by decide +kernel
theorem dM_in_9 : decode cM_in 9 = .ok (.iconst 1, 1) := by decide +kernel
theorem dM_in_10 : decode cM_in 10 = .ok (.goto 4, 3) := by decide +kernel
theorem dM_in_13 : decode cM_in 13 = .ok (.iconst 0, 1) := by decide +kernel
theorem dM_in_14 : decode cM_in 14 = .ok (.ireturn, 1) := by decide +kernel
theorem dM_lines_0 : decode cM_lines 0 = .ok (.iload_n 1, 1) := by decide +kernel
theorem dM_lines_1 : decode cM_lines 1 = .ok (.aload_n 0, 1) := by decide +kernel
theorem dM_lines_2 : decode cM_lines 2 = .ok (.getfield 42, 3) := by decide +kernel
theorem dM_lines_5 : decode cM_lines 5 = .ok (.invokestatic 46, 3) := by decide +kernel
theorem dM_lines_8 : decode cM_lines 8 = .ok (.ifCond .eq 12, 3) := by decide +kernel
theorem dM_lines_11 : decode cM_lines 11 = .ok (.aload_n 0, 1) := by decide +kernel
theorem dM_lines_12 : decode cM_lines 12 = .ok (.getfield 7, 3) := by decide +kernel
theorem dM_lines_15 : decode cM_lines 15 = .ok (.iload_n 1, 1) := by decide +kernel
theorem dM_lines_16 : decode cM_lines 16 = .ok (.iaload, 1) := by decide +kernel
theorem dM_lines_17 : decode cM_lines 17 = .ok (.goto 4, 3) := by decide +kernel
theorem dM_lines_20 : decode cM_lines 20 = .ok (.iconst (-1), 1) := by decide +kernel
theorem dM_lines_21 : decode cM_lines 21 = .ok (.ireturn, 1) := by decide +kernel
theorem dM_run_0 : decode cM_run 0 = .ok (.aload_n 0, 1) := by decide +kernel
theorem dM_run_1 : decode cM_run 1 = .ok (.getfield 50, 3) := by decide +kernel
theorem dM_run_4 : decode cM_run 4 = .ok (.bipush 14, 2) := by decide +kernel
theorem dM_run_6 : decode cM_run 6 = .ok (.if_icmp .eq 24, 3) := by decide +kernel
theorem dM_run_9 : decode cM_run 9 = .ok (.iload_n 1, 1) := by decide +kernel
theorem dM_run_10 : decode cM_run 10 = .ok (.aload_n 0, 1) := by decide +kernel
theorem dM_run_11 : decode cM_run 11 = .ok (.getfield 42, 3) := by decide +kernel
theorem dM_run_14 : decode cM_run 14 = .ok (.invokestatic 46, 3) := by decide +kernel
theorem dM_run_17 : decode cM_run 17 = .ok (.ifCond .eq 13, 3) := by decide +kernel
theorem dM_run_20 : decode cM_run 20 = .ok (.iload_n 2, 1) := by decide +kernel
theorem dM_run_21 : decode cM_run 21 = .ok (.ifCond .lt 9, 3) := by decide +kernel
theorem dM_run_24 : decode cM_run 24 = .ok (.iload_n 2, 1) := by decide +kernel
theorem dM_run_25 : decode cM_run 25 = .ok (.ldc 53, 2) := by decide +kernel
theorem dM_run_27 : decode cM_run 27 = .ok (.if_icmp .le 5, 3) := by decide +kernel
theorem dM_run_30 : decode cM_run 30 = .ok (.iconst (-1), 1) := by decide +kernel
theorem dM_run_31 : decode cM_run 31 = .ok (.ireturn, 1) := by decide +kernel
theorem dM_run_32 : decode cM_run 32 = .ok (.aload_n 0, 1) := by decide +kernel
theorem dM_run_33 : decode cM_run 33 = .ok (.iload_n 1, 1) := by decide +kernel
theorem dM_run_34 : decode cM_run 34 = .ok (.iload_n 2, 1) := by decide +kernel
theorem dM_run_35 : decode cM_run 35 = .ok (.lconst 0, 1) := by decide +kernel
theorem dM_run_36 : decode cM_run 36 = .ok (.invokevirtual 54, 3) := by decide +kernel
theorem dM_run_39 : decode cM_run 39 = .ok (.ireturn, 1) := by decide +kernel
theorem dM_newRun_0 : decode cM_newRun 0 = .ok (.aload_n 0, 1) := by decide +kernel
theorem dM_newRun_1 : decode cM_newRun 1 = .ok (.getfield 26, 3) := by decide +kernel
theorem dM_newRun_4 : decode cM_newRun 4 = .ok (.aload_n 0, 1) := by decide +kernel
theorem dM_newRun_5 : decode cM_newRun 5 = .ok (.getfield 50, 3) := by decide +kernel
theorem dM_newRun_8 : decode cM_newRun 8 = .ok (.iload_n 1, 1) := by decide +kernel
theorem dM_newRun_9 : decode cM_newRun 9 = .ok (.iastore, 1) := by decide +kernel
theorem dM_newRun_10 : decode cM_newRun 10 = .ok (.aload_n 0, 1) := by decide +kernel
theorem dM_newRun_11 : decode cM_newRun 11 = .ok (.getfield 29, 3) := by decide +kernel
theorem dM_newRun_14 : decode cM_newRun 14 = .ok (.aload_n 0, 1) := by decide +kernel
theorem dM_newRun_15 : decode cM_newRun 15 = .ok (.getfield 50, 3) := by decide +kernel
theorem dM_newRun_18 : decode cM_newRun 18 = .ok (.iload_n 2, 1) := by decide +kernel
theorem dM_newRun_19 : decode cM_newRun 19 = .ok (.iastore, 1) := by decide +kernel
theorem dM_newRun_20 : decode cM_newRun 20 = .ok (.aload_n 0, 1) := by decide +kernel
theorem dM_newRun_21 : decode cM_newRun 21 = .ok (.getfield 32, 3) := by decide +kernel
theorem dM_newRun_24 : decode cM_newRun 24 = .ok (.aload_n 0, 1) := by decide +kernel
theorem dM_newRun_25 : decode cM_newRun 25 = .ok (.getfield 50, 3) := by decide +kernel
theorem dM_newRun_28 : decode cM_newRun 28 = .ok (.lload_n 3, 1) := by decide +kernel
theorem dM_newRun_29 : decode cM_newRun 29 = .ok (.lastore, 1) := by decide +kernel
theorem dM_newRun_30 : decode cM_newRun 30 = .ok (.aload_n 0, 1) := by decide +kernel
theorem dM_newRun_31 : decode cM_newRun 31 = .ok (.getfield 23, 3) := by decide +kernel
theorem dM_newRun_34 : decode cM_newRun 34 = .ok (.iload_n 1, 1) := by decide +kernel
theorem dM_newRun_35 : decode cM_newRun 35 = .ok (.iconst 1, 1) := by decide +kernel
theorem dM_newRun_36 : decode cM_newRun 36 = .ok (.bastore, 1) := by decide +kernel
theorem dM_newRun_37 : decode cM_newRun 37 = .ok (.aload_n 0, 1) := by decide +kernel
theorem dM_newRun_38 : decode cM_newRun 38 = .ok (.dup, 1) := by decide +kernel
theorem dM_newRun_39 : decode cM_newRun 39 = .ok (.getfield 50, 3) := by decide +kernel
theorem dM_newRun_42 : decode cM_newRun 42 = .ok (.iconst 1, 1) := by decide +kernel
theorem dM_newRun_43 : decode cM_newRun 43 = .ok (.iadd, 1) := by decide +kernel
theorem dM_newRun_44 : decode cM_newRun 44 = .ok (.putfield 50, 3) := by decide +kernel
theorem dM_newRun_47 : decode cM_newRun 47 = .ok (.aload_n 0, 1) := by decide +kernel
theorem dM_newRun_48 : decode cM_newRun 48 = .ok (.getfield 50, 3) := by decide +kernel
theorem dM_newRun_51 : decode cM_newRun 51 = .ok (.iconst 1, 1) := by decide +kernel
theorem dM_newRun_52 : decode cM_newRun 52 = .ok (.isub, 1) := by decide +kernel
theorem dM_newRun_53 : decode cM_newRun 53 = .ok (.ireturn, 1) := by decide +kernel
theorem dM_hit_0 : decode cM_hit 0 = .ok (.aload_n 0, 1) := by decide +kernel
theorem dM_hit_1 : decode cM_hit 1 = .ok (.iload_n 1, 1) := by decide +kernel
theorem dM_hit_2 : decode cM_hit 2 = .ok (.iload_n 2, 1) := by decide +kernel
theorem dM_hit_3 : decode cM_hit 3 = .ok (.invokevirtual 58, 3) := by decide +kernel
theorem dM_hit_6 : decode cM_hit 6 = .ok (.ifCond .eq 12, 3) := by decide +kernel
theorem dM_hit_9 : decode cM_hit 9 = .ok (.aload_n 0, 1) := by decide +kernel
theorem dM_hit_10 : decode cM_hit 10 = .ok (.iload_n 1, 1) := by decide +kernel
theorem dM_hit_11 : decode cM_hit 11 = .ok (.iload_n 2, 1) := by decide +kernel
theorem dM_hit_12 : decode cM_hit 12 = .ok (.invokevirtual 61, 3) := by decide +kernel
theorem dM_hit_15 : decode cM_hit 15 = .ok (.ifCond .eq 5, 3) := by decide +kernel
theorem dM_hit_18 : decode cM_hit 18 = .ok (.iconst 0, 1) := by decide +kernel
theorem dM_hit_19 : decode cM_hit 19 = .ok (.ireturn, 1) := by decide +kernel
theorem dM_hit_20 : decode cM_hit 20 = .ok (.aload_n 0, 1) := by decide +kernel
theorem dM_hit_21 : decode cM_hit 21 = .ok (.getfield 32, 3) := by decide +kernel
theorem dM_hit_24 : decode cM_hit 24 = .ok (.iload_n 1, 1) := by decide +kernel
theorem dM_hit_25 : decode cM_hit 25 = .ok (.dup2, 1) := by decide +kernel
theorem dM_hit_26 : decode cM_hit 26 = .ok (.laload, 1) := by decide +kernel
theorem dM_hit_27 : decode cM_hit 27 = .ok (.lconst 1, 1) := by decide +kernel
theorem dM_hit_28 : decode cM_hit 28 = .ok (.iload_n 2, 1) := by decide +kernel
theorem dM_hit_29 : decode cM_hit 29 = .ok (.lshl, 1) := by decide +kernel
theorem dM_hit_30 : decode cM_hit 30 = .ok (.lor, 1) := by decide +kernel
theorem dM_hit_31 : decode cM_hit 31 = .ok (.lastore, 1) := by decide +kernel
theorem dM_hit_32 : decode cM_hit 32 = .ok (.iconst 1, 1) := by decide +kernel
theorem dM_hit_33 : decode cM_hit 33 = .ok (.ireturn, 1) := by decide +kernel
theorem dM_isLine_0 : decode cM_isLine 0 = .ok (.iload_n 1, 1) := by decide +kernel
theorem dM_isLine_1 : decode cM_isLine 1 = .ok (.aload_n 0, 1) := by decide +kernel
theorem dM_isLine_2 : decode cM_isLine 2 = .ok (.getfield 50, 3) := by decide +kernel
theorem dM_isLine_5 : decode cM_isLine 5 = .ok (.invokestatic 46, 3) := by decide +kernel
theorem dM_isLine_8 : decode cM_isLine 8 = .ok (.ifCond .eq 25, 3) := by decide +kernel
theorem dM_isLine_11 : decode cM_isLine 11 = .ok (.iload_n 2, 1) := by decide +kernel
theorem dM_isLine_12 : decode cM_isLine 12 = .ok (.aload_n 0, 1) := by decide +kernel
theorem dM_isLine_13 : decode cM_isLine 13 = .ok (.getfield 7, 3) := by decide +kernel
theorem dM_isLine_16 : decode cM_isLine 16 = .ok (.aload_n 0, 1) := by decide +kernel
theorem dM_isLine_17 : decode cM_isLine 17 = .ok (.getfield 26, 3) := by decide +kernel
theorem dM_isLine_20 : decode cM_isLine 20 = .ok (.iload_n 1, 1) := by decide +kernel
theorem dM_isLine_21 : decode cM_isLine 21 = .ok (.iaload, 1) := by decide +kernel
theorem dM_isLine_22 : decode cM_isLine 22 = .ok (.iaload, 1) := by decide +kernel
theorem dM_isLine_23 : decode cM_isLine 23 = .ok (.invokestatic 46, 3) := by decide +kernel
theorem dM_isLine_26 : decode cM_isLine 26 = .ok (.ifCond .eq 7, 3) := by decide +kernel
theorem dM_isLine_29 : decode cM_isLine 29 = .ok (.iconst 1, 1) := by decide +kernel
theorem dM_isLine_30 : decode cM_isLine 30 = .ok (.goto 4, 3) := by decide +kernel
theorem dM_isLine_33 : decode cM_isLine 33 = .ok (.iconst 0, 1) := by decide +kernel
theorem dM_isLine_34 : decode cM_isLine 34 = .ok (.ireturn, 1) := by decide +kernel
theorem dM_isHit_0 : decode cM_isHit 0 = .ok (.aload_n 0, 1) := by decide +kernel
theorem dM_isHit_1 : decode cM_isHit 1 = .ok (.getfield 32, 3) := by decide +kernel
theorem dM_isHit_4 : decode cM_isHit 4 = .ok (.iload_n 1, 1) := by decide +kernel
theorem dM_isHit_5 : decode cM_isHit 5 = .ok (.laload, 1) := by decide +kernel
theorem dM_isHit_6 : decode cM_isHit 6 = .ok (.iload_n 2, 1) := by decide +kernel
theorem dM_isHit_7 : decode cM_isHit 7 = .ok (.lshr, 1) := by decide +kernel
theorem dM_isHit_8 : decode cM_isHit 8 = .ok (.lconst 1, 1) := by decide +kernel
theorem dM_isHit_9 : decode cM_isHit 9 = .ok (.land, 1) := by decide +kernel
theorem dM_isHit_10 : decode cM_isHit 10 = .ok (.lconst 1, 1) := by decide +kernel
theorem dM_isHit_11 : decode cM_isHit 11 = .ok (.lcmp, 1) := by decide +kernel
theorem dM_isHit_12 : decode cM_isHit 12 = .ok (.ifCond .ne 7, 3) := by decide +kernel
theorem dM_isHit_15 : decode cM_isHit 15 = .ok (.iconst 1, 1) := by decide +kernel
theorem dM_isHit_16 : decode cM_isHit 16 = .ok (.goto 4, 3) := by decide +kernel
theorem dM_isHit_19 : decode cM_isHit 19 = .ok (.iconst 0, 1) := by decide +kernel
theorem dM_isHit_20 : decode cM_isHit 20 = .ok (.ireturn, 1) := by decide +kernel
theorem dM_covered_0 : decode cM_covered 0 = .ok (.aload_n 0, 1) := by decide +kernel
theorem dM_covered_1 : decode cM_covered 1 = .ok (.iload_n 1, 1) := by decide +kernel
theorem dM_covered_2 : decode cM_covered 2 = .ok (.iload_n 2, 1) := by decide +kernel
theorem dM_covered_3 : decode cM_covered 3 = .ok (.invokevirtual 58, 3) := by decide +kernel
theorem dM_covered_6 : decode cM_covered 6 = .ok (.ifCond .eq 16, 3) := by decide +kernel
theorem dM_covered_9 : decode cM_covered 9 = .ok (.aload_n 0, 1) := by decide +kernel
theorem dM_covered_10 : decode cM_covered 10 = .ok (.iload_n 1, 1) := by decide +kernel
theorem dM_covered_11 : decode cM_covered 11 = .ok (.iload_n 2, 1) := by decide +kernel
theorem dM_covered_12 : decode cM_covered 12 = .ok (.invokevirtual 61, 3) := by decide +kernel
theorem dM_covered_15 : decode cM_covered 15 = .ok (.ifCond .eq 7, 3) := by decide +kernel
theorem dM_covered_18 : decode cM_covered 18 = .ok (.iconst 1, 1) := by decide +kernel
theorem dM_covered_19 : decode cM_covered 19 = .ok (.goto 4, 3) := by decide +kernel
theorem dM_covered_22 : decode cM_covered 22 = .ok (.iconst 0, 1) := by decide +kernel
theorem dM_covered_23 : decode cM_covered 23 = .ok (.ireturn, 1) := by decide +kernel
theorem dM_same_0 : decode cM_same 0 = .ok (.iload_n 1, 1) := by decide +kernel
theorem dM_same_1 : decode cM_same 1 = .ok (.aload_n 0, 1) := by decide +kernel
theorem dM_same_2 : decode cM_same 2 = .ok (.getfield 42, 3) := by decide +kernel
theorem dM_same_5 : decode cM_same 5 = .ok (.invokestatic 46, 3) := by decide +kernel
theorem dM_same_8 : decode cM_same 8 = .ok (.ifCond .eq 27, 3) := by decide +kernel
theorem dM_same_11 : decode cM_same 11 = .ok (.iload_n 2, 1) := by decide +kernel
theorem dM_same_12 : decode cM_same 12 = .ok (.aload_n 0, 1) := by decide +kernel
theorem dM_same_13 : decode cM_same 13 = .ok (.getfield 42, 3) := by decide +kernel
theorem dM_same_16 : decode cM_same 16 = .ok (.invokestatic 46, 3) := by decide +kernel
theorem dM_same_19 : decode cM_same 19 = .ok (.ifCond .eq 16, 3) := by decide +kernel
theorem dM_same_22 : decode cM_same 22 = .ok (.iload_n 3, 1) := by decide +kernel
theorem dM_same_23 : decode cM_same 23 = .ok (.aload_n 0, 1) := by decide +kernel
theorem dM_same_24 : decode cM_same 24 = .ok (.getfield 7, 3) := by decide +kernel
theorem dM_same_27 : decode cM_same 27 = .ok (.iload_n 1, 1) := by decide +kernel
theorem dM_same_28 : decode cM_same 28 = .ok (.iaload, 1) := by decide +kernel
theorem dM_same_29 : decode cM_same 29 = .ok (.invokestatic 46, 3) := by decide +kernel
theorem dM_same_32 : decode cM_same 32 = .ok (.ifCond .ne 5, 3) := by decide +kernel
theorem dM_same_35 : decode cM_same 35 = .ok (.iconst (-1), 1) := by decide +kernel
theorem dM_same_36 : decode cM_same 36 = .ok (.ireturn, 1) := by decide +kernel
theorem dM_same_37 : decode cM_same 37 = .ok (.aload_n 0, 1) := by decide +kernel
theorem dM_same_38 : decode cM_same 38 = .ok (.iload_n 1, 1) := by decide +kernel
theorem dM_same_39 : decode cM_same 39 = .ok (.iload_n 2, 1) := by decide +kernel
theorem dM_same_40 : decode cM_same 40 = .ok (.invokevirtual 68, 3) := by decide +kernel
theorem dM_same_43 : decode cM_same 43 = .ok (.aload_n 0, 1) := by decide +kernel
theorem dM_same_44 : decode cM_same 44 = .ok (.getfield 39, 3) := by decide +kernel
theorem dM_same_47 : decode cM_same 47 = .ok (.iload_n 3, 1) := by decide +kernel
theorem dM_same_48 : decode cM_same 48 = .ok (.iaload, 1) := by decide +kernel
theorem dM_same_49 : decode cM_same 49 = .ok (.ireturn, 1) := by decide +kernel
theorem dM_compare_0 : decode cM_compare 0 = .ok (.aload_n 0, 1) := by decide +kernel
theorem dM_compare_1 : decode cM_compare 1 = .ok (.getfield 23, 3) := by decide +kernel
theorem dM_compare_4 : decode cM_compare 4 = .ok (.iload_n 1, 1) := by decide +kernel
theorem dM_compare_5 : decode cM_compare 5 = .ok (.iconst 1, 1) := by decide +kernel
theorem dM_compare_6 : decode cM_compare 6 = .ok (.bastore, 1) := by decide +kernel
theorem dM_compare_7 : decode cM_compare 7 = .ok (.aload_n 0, 1) := by decide +kernel
theorem dM_compare_8 : decode cM_compare 8 = .ok (.getfield 23, 3) := by decide +kernel
theorem dM_compare_11 : decode cM_compare 11 = .ok (.iload_n 2, 1) := by decide +kernel
theorem dM_compare_12 : decode cM_compare 12 = .ok (.iconst 1, 1) := by decide +kernel
theorem dM_compare_13 : decode cM_compare 13 = .ok (.bastore, 1) := by decide +kernel
theorem dM_compare_14 : decode cM_compare 14 = .ok (.aload_n 0, 1) := by decide +kernel
theorem dM_compare_15 : decode cM_compare 15 = .ok (.getfield 7, 3) := by decide +kernel
theorem dM_compare_18 : decode cM_compare 18 = .ok (.iload_n 1, 1) := by decide +kernel
theorem dM_compare_19 : decode cM_compare 19 = .ok (.iaload, 1) := by decide +kernel
theorem dM_compare_20 : decode cM_compare 20 = .ok (.istore_n 3, 1) := by decide +kernel
theorem dM_compare_21 : decode cM_compare 21 = .ok (.aload_n 0, 1) := by decide +kernel
theorem dM_compare_22 : decode cM_compare 22 = .ok (.getfield 7, 3) := by decide +kernel
theorem dM_compare_25 : decode cM_compare 25 = .ok (.iload_n 2, 1) := by decide +kernel
theorem dM_compare_26 : decode cM_compare 26 = .ok (.iaload, 1) := by decide +kernel
theorem dM_compare_27 : decode cM_compare 27 = .ok (.istore 4, 2) := by decide +kernel
theorem dM_compare_29 : decode cM_compare 29 = .ok (.iload_n 3, 1) := by decide +kernel
theorem dM_compare_30 : decode cM_compare 30 = .ok (.istore 5, 2) := by decide +kernel
theorem dM_compare_32 : decode cM_compare 32 = .ok (.iload 5, 2) := by decide +kernel
theorem dM_compare_34 : decode cM_compare 34 = .ok (.ifCond .lt 159, 3) := by decide +kernel
theorem dM_compare_37 : decode cM_compare 37 = .ok (.iload 4, 2) := by decide +kernel
theorem dM_compare_39 : decode cM_compare 39 = .ok (.istore 6, 2) := by decide +kernel
theorem dM_compare_41 : decode cM_compare 41 = .ok (.iload 6, 2) := by decide +kernel
theorem dM_compare_43 : decode cM_compare 43 = .ok (.ifCond .lt 144, 3) := by decide +kernel
theorem dM_compare_46 : decode cM_compare 46 = .ok (.iconst 0, 1) := by decide +kernel
theorem dM_compare_47 : decode cM_compare 47 = .ok (.istore 7, 2) := by decide +kernel
theorem dM_compare_49 : decode cM_compare 49 = .ok (.iload 5, 2) := by decide +kernel
theorem dM_compare_51 : decode cM_compare 51 = .ok (.iload_n 3, 1) := by decide +kernel
theorem dM_compare_52 : decode cM_compare 52 = .ok (.if_icmp .ge 114, 3) := by decide +kernel
theorem dM_compare_55 : decode cM_compare 55 = .ok (.iload 6, 2) := by decide +kernel
theorem dM_compare_57 : decode cM_compare 57 = .ok (.iload 4, 2) := by decide +kernel
theorem dM_compare_59 : decode cM_compare 59 = .ok (.if_icmp .ge 107, 3) := by decide +kernel
theorem dM_compare_62 : decode cM_compare 62 = .ok (.aload_n 0, 1) := by decide +kernel
theorem dM_compare_63 : decode cM_compare 63 = .ok (.getfield 36, 3) := by decide +kernel
theorem dM_compare_66 : decode cM_compare 66 = .ok (.bipush 41, 2) := by decide +kernel
theorem dM_compare_68 : decode cM_compare 68 = .ok (.iload 5, 2) := by decide +kernel
theorem dM_compare_70 : decode cM_compare 70 = .ok (.iconst 1, 1) := by decide +kernel
theorem dM_compare_71 : decode cM_compare 71 = .ok (.iadd, 1) := by decide +kernel
theorem dM_compare_72 : decode cM_compare 72 = .ok (.imul, 1) := by decide +kernel
theorem dM_compare_73 : decode cM_compare 73 = .ok (.iload 6, 2) := by decide +kernel
theorem dM_compare_75 : decode cM_compare 75 = .ok (.iadd, 1) := by decide +kernel
theorem dM_compare_76 : decode cM_compare 76 = .ok (.iaload, 1) := by decide +kernel
theorem dM_compare_77 : decode cM_compare 77 = .ok (.istore 8, 2) := by decide +kernel
theorem dM_compare_79 : decode cM_compare 79 = .ok (.aload_n 0, 1) := by decide +kernel
theorem dM_compare_80 : decode cM_compare 80 = .ok (.getfield 36, 3) := by decide +kernel
theorem dM_compare_83 : decode cM_compare 83 = .ok (.bipush 41, 2) := by decide +kernel
theorem dM_compare_85 : decode cM_compare 85 = .ok (.iload 5, 2) := by decide +kernel
theorem dM_compare_87 : decode cM_compare 87 = .ok (.imul, 1) := by decide +kernel
theorem dM_compare_88 : decode cM_compare 88 = .ok (.iload 6, 2) := by decide +kernel
theorem dM_compare_90 : decode cM_compare 90 = .ok (.iadd, 1) := by decide +kernel
theorem dM_compare_91 : decode cM_compare 91 = .ok (.iconst 1, 1) := by decide +kernel
theorem dM_compare_92 : decode cM_compare 92 = .ok (.iadd, 1) := by decide +kernel
theorem dM_compare_93 : decode cM_compare 93 = .ok (.iaload, 1) := by decide +kernel
theorem dM_compare_94 : decode cM_compare 94 = .ok (.istore 9, 2) := by decide +kernel
theorem dM_compare_96 : decode cM_compare 96 = .ok (.aload_n 0, 1) := by decide +kernel
theorem dM_compare_97 : decode cM_compare 97 = .ok (.iload_n 1, 1) := by decide +kernel
theorem dM_compare_98 : decode cM_compare 98 = .ok (.iload 5, 2) := by decide +kernel
theorem dM_compare_100 : decode cM_compare 100 = .ok (.iload_n 2, 1) := by decide +kernel
theorem dM_compare_101 : decode cM_compare 101 = .ok (.iload 6, 2) := by decide +kernel
theorem dM_compare_103 : decode cM_compare 103 = .ok (.invokevirtual 64, 3) := by decide +kernel
theorem dM_compare_106 : decode cM_compare 106 = .ok (.ifCond .eq 25, 3) := by decide +kernel
theorem dM_compare_109 : decode cM_compare 109 = .ok (.aload_n 0, 1) := by decide +kernel
theorem dM_compare_110 : decode cM_compare 110 = .ok (.getfield 36, 3) := by decide +kernel
theorem dM_compare_113 : decode cM_compare 113 = .ok (.bipush 41, 2) := by decide +kernel
theorem dM_compare_115 : decode cM_compare 115 = .ok (.iload 5, 2) := by decide +kernel
theorem dM_compare_117 : decode cM_compare 117 = .ok (.iconst 1, 1) := by decide +kernel
theorem dM_compare_118 : decode cM_compare 118 = .ok (.iadd, 1) := by decide +kernel
theorem dM_compare_119 : decode cM_compare 119 = .ok (.imul, 1) := by decide +kernel
theorem dM_compare_120 : decode cM_compare 120 = .ok (.iload 6, 2) := by decide +kernel
theorem dM_compare_122 : decode cM_compare 122 = .ok (.iadd, 1) := by decide +kernel
theorem dM_compare_123 : decode cM_compare 123 = .ok (.iconst 1, 1) := by decide +kernel
theorem dM_compare_124 : decode cM_compare 124 = .ok (.iadd, 1) := by decide +kernel
theorem dM_compare_125 : decode cM_compare 125 = .ok (.iaload, 1) := by decide +kernel
theorem dM_compare_126 : decode cM_compare 126 = .ok (.iconst 1, 1) := by decide +kernel
theorem dM_compare_127 : decode cM_compare 127 = .ok (.iadd, 1) := by decide +kernel
theorem dM_compare_128 : decode cM_compare 128 = .ok (.goto 4, 3) := by decide +kernel
theorem dM_compare_131 : decode cM_compare 131 = .ok (.iconst 0, 1) := by decide +kernel
theorem dM_compare_132 : decode cM_compare 132 = .ok (.istore 10, 2) := by decide +kernel
theorem dM_compare_134 : decode cM_compare 134 = .ok (.iload 8, 2) := by decide +kernel
theorem dM_compare_136 : decode cM_compare 136 = .ok (.iload 9, 2) := by decide +kernel
theorem dM_compare_138 : decode cM_compare 138 = .ok (.if_icmp .le 8, 3) := by decide +kernel
theorem dM_compare_141 : decode cM_compare 141 = .ok (.iload 8, 2) := by decide +kernel
theorem dM_compare_143 : decode cM_compare 143 = .ok (.goto 5, 3) := by decide +kernel
theorem dM_compare_146 : decode cM_compare 146 = .ok (.iload 9, 2) := by decide +kernel
theorem dM_compare_148 : decode cM_compare 148 = .ok (.istore 7, 2) := by decide +kernel
theorem dM_compare_150 : decode cM_compare 150 = .ok (.iload 10, 2) := by decide +kernel
theorem dM_compare_152 : decode cM_compare 152 = .ok (.iload 7, 2) := by decide +kernel
theorem dM_compare_154 : decode cM_compare 154 = .ok (.if_icmp .le 8, 3) := by decide +kernel
theorem dM_compare_157 : decode cM_compare 157 = .ok (.iload 10, 2) := by decide +kernel
theorem dM_compare_159 : decode cM_compare 159 = .ok (.goto 5, 3) := by decide +kernel
theorem dM_compare_162 : decode cM_compare 162 = .ok (.iload 7, 2) := by decide +kernel
theorem dM_compare_164 : decode cM_compare 164 = .ok (.istore 7, 2) := by decide +kernel
theorem dM_compare_166 : decode cM_compare 166 = .ok (.aload_n 0, 1) := by decide +kernel
theorem dM_compare_167 : decode cM_compare 167 = .ok (.getfield 36, 3) := by decide +kernel
theorem dM_compare_170 : decode cM_compare 170 = .ok (.bipush 41, 2) := by decide +kernel
theorem dM_compare_172 : decode cM_compare 172 = .ok (.iload 5, 2) := by decide +kernel
theorem dM_compare_174 : decode cM_compare 174 = .ok (.imul, 1) := by decide +kernel
theorem dM_compare_175 : decode cM_compare 175 = .ok (.iload 6, 2) := by decide +kernel
theorem dM_compare_177 : decode cM_compare 177 = .ok (.iadd, 1) := by decide +kernel
theorem dM_compare_178 : decode cM_compare 178 = .ok (.iload 7, 2) := by decide +kernel
theorem dM_compare_180 : decode cM_compare 180 = .ok (.iastore, 1) := by decide +kernel
theorem dM_compare_181 : decode cM_compare 181 = .ok (.iinc 6 (-1), 3) := by decide +kernel
theorem dM_compare_184 : decode cM_compare 184 = .ok (.goto (-143), 3) := by decide +kernel
theorem dM_compare_187 : decode cM_compare 187 = .ok (.iinc 5 (-1), 3) := by decide +kernel
theorem dM_compare_190 : decode cM_compare 190 = .ok (.goto (-158), 3) := by decide +kernel
theorem dM_compare_193 : decode cM_compare 193 = .ok (.iconst 0, 1) := by decide +kernel
theorem dM_compare_194 : decode cM_compare 194 = .ok (.istore 5, 2) := by decide +kernel
theorem dM_compare_196 : decode cM_compare 196 = .ok (.iconst 0, 1) := by decide +kernel
theorem dM_compare_197 : decode cM_compare 197 = .ok (.istore 6, 2) := by decide +kernel
theorem dM_compare_199 : decode cM_compare 199 = .ok (.iload 6, 2) := by decide +kernel
theorem dM_compare_201 : decode cM_compare 201 = .ok (.iload_n 3, 1) := by decide +kernel
theorem dM_compare_202 : decode cM_compare 202 = .ok (.if_icmp .ge 129, 3) := by decide +kernel
theorem dM_compare_205 : decode cM_compare 205 = .ok (.aload_n 0, 1) := by decide +kernel
theorem dM_compare_206 : decode cM_compare 206 = .ok (.getfield 39, 3) := by decide +kernel
theorem dM_compare_209 : decode cM_compare 209 = .ok (.iload 6, 2) := by decide +kernel
theorem dM_compare_211 : decode cM_compare 211 = .ok (.iconst (-1), 1) := by decide +kernel
theorem dM_compare_212 : decode cM_compare 212 = .ok (.iastore, 1) := by decide +kernel
theorem dM_compare_213 : decode cM_compare 213 = .ok (.iload 5, 2) := by decide +kernel
theorem dM_compare_215 : decode cM_compare 215 = .ok (.istore 7, 2) := by decide +kernel
theorem dM_compare_217 : decode cM_compare 217 = .ok (.iload 7, 2) := by decide +kernel
theorem dM_compare_219 : decode cM_compare 219 = .ok (.iload 4, 2) := by decide +kernel
theorem dM_compare_221 : decode cM_compare 221 = .ok (.if_icmp .ge 77, 3) := by decide +kernel
theorem dM_compare_224 : decode cM_compare 224 = .ok (.aload_n 0, 1) := by decide +kernel
theorem dM_compare_225 : decode cM_compare 225 = .ok (.getfield 39, 3) := by decide +kernel
theorem dM_compare_228 : decode cM_compare 228 = .ok (.iload 6, 2) := by decide +kernel
theorem dM_compare_230 : decode cM_compare 230 = .ok (.iaload, 1) := by decide +kernel
theorem dM_compare_231 : decode cM_compare 231 = .ok (.iconst (-1), 1) := by decide +kernel
theorem dM_compare_232 : decode cM_compare 232 = .ok (.if_icmp .ne 66, 3) := by decide +kernel
theorem dM_compare_235 : decode cM_compare 235 = .ok (.aload_n 0, 1) := by decide +kernel
theorem dM_compare_236 : decode cM_compare 236 = .ok (.iload_n 1, 1) := by decide +kernel
theorem dM_compare_237 : decode cM_compare 237 = .ok (.iload 6, 2) := by decide +kernel
theorem dM_compare_239 : decode cM_compare 239 = .ok (.iload_n 2, 1) := by decide +kernel
theorem dM_compare_240 : decode cM_compare 240 = .ok (.iload 7, 2) := by decide +kernel
theorem dM_compare_242 : decode cM_compare 242 = .ok (.invokevirtual 64, 3) := by decide +kernel
theorem dM_compare_245 : decode cM_compare 245 = .ok (.ifCond .eq 47, 3) := by decide +kernel
theorem dM_compare_248 : decode cM_compare 248 = .ok (.aload_n 0, 1) := by decide +kernel
theorem dM_compare_249 : decode cM_compare 249 = .ok (.getfield 36, 3) := by decide +kernel
theorem dM_compare_252 : decode cM_compare 252 = .ok (.bipush 41, 2) := by decide +kernel
theorem dM_compare_254 : decode cM_compare 254 = .ok (.iload 6, 2) := by decide +kernel
theorem dM_compare_256 : decode cM_compare 256 = .ok (.iconst 1, 1) := by decide +kernel
theorem dM_compare_257 : decode cM_compare 257 = .ok (.iadd, 1) := by decide +kernel
theorem dM_compare_258 : decode cM_compare 258 = .ok (.imul, 1) := by decide +kernel
theorem dM_compare_259 : decode cM_compare 259 = .ok (.iload 7, 2) := by decide +kernel
theorem dM_compare_261 : decode cM_compare 261 = .ok (.iadd, 1) := by decide +kernel
theorem dM_compare_262 : decode cM_compare 262 = .ok (.iconst 1, 1) := by decide +kernel
theorem dM_compare_263 : decode cM_compare 263 = .ok (.iadd, 1) := by decide +kernel
theorem dM_compare_264 : decode cM_compare 264 = .ok (.iaload, 1) := by decide +kernel
theorem dM_compare_265 : decode cM_compare 265 = .ok (.iconst 1, 1) := by decide +kernel
theorem dM_compare_266 : decode cM_compare 266 = .ok (.iadd, 1) := by decide +kernel
theorem dM_compare_267 : decode cM_compare 267 = .ok (.aload_n 0, 1) := by decide +kernel
theorem dM_compare_268 : decode cM_compare 268 = .ok (.getfield 36, 3) := by decide +kernel
theorem dM_compare_271 : decode cM_compare 271 = .ok (.bipush 41, 2) := by decide +kernel
theorem dM_compare_273 : decode cM_compare 273 = .ok (.iload 6, 2) := by decide +kernel
theorem dM_compare_275 : decode cM_compare 275 = .ok (.imul, 1) := by decide +kernel
theorem dM_compare_276 : decode cM_compare 276 = .ok (.iload 5, 2) := by decide +kernel
theorem dM_compare_278 : decode cM_compare 278 = .ok (.iadd, 1) := by decide +kernel
theorem dM_compare_279 : decode cM_compare 279 = .ok (.iaload, 1) := by decide +kernel
theorem dM_compare_280 : decode cM_compare 280 = .ok (.if_icmp .ne 12, 3) := by decide +kernel
theorem dM_compare_283 : decode cM_compare 283 = .ok (.aload_n 0, 1) := by decide +kernel
theorem dM_compare_284 : decode cM_compare 284 = .ok (.getfield 39, 3) := by decide +kernel
theorem dM_compare_287 : decode cM_compare 287 = .ok (.iload 6, 2) := by decide +kernel
theorem dM_compare_289 : decode cM_compare 289 = .ok (.iload 7, 2) := by decide +kernel
theorem dM_compare_291 : decode cM_compare 291 = .ok (.iastore, 1) := by decide +kernel
theorem dM_compare_292 : decode cM_compare 292 = .ok (.iinc 7 1, 3) := by decide +kernel
theorem dM_compare_295 : decode cM_compare 295 = .ok (.goto (-78), 3) := by decide +kernel
theorem dM_compare_298 : decode cM_compare 298 = .ok (.aload_n 0, 1) := by decide +kernel
theorem dM_compare_299 : decode cM_compare 299 = .ok (.getfield 39, 3) := by decide +kernel
theorem dM_compare_302 : decode cM_compare 302 = .ok (.iload 6, 2) := by decide +kernel
theorem dM_compare_304 : decode cM_compare 304 = .ok (.iaload, 1) := by decide +kernel
theorem dM_compare_305 : decode cM_compare 305 = .ok (.iconst (-1), 1) := by decide +kernel
theorem dM_compare_306 : decode cM_compare 306 = .ok (.if_icmp .ne 8, 3) := by decide +kernel
theorem dM_compare_309 : decode cM_compare 309 = .ok (.iload 5, 2) := by decide +kernel
theorem dM_compare_311 : decode cM_compare 311 = .ok (.goto 12, 3) := by decide +kernel
theorem dM_compare_314 : decode cM_compare 314 = .ok (.aload_n 0, 1) := by decide +kernel
theorem dM_compare_315 : decode cM_compare 315 = .ok (.getfield 39, 3) := by decide +kernel
theorem dM_compare_318 : decode cM_compare 318 = .ok (.iload 6, 2) := by decide +kernel
theorem dM_compare_320 : decode cM_compare 320 = .ok (.iaload, 1) := by decide +kernel
theorem dM_compare_321 : decode cM_compare 321 = .ok (.iconst 1, 1) := by decide +kernel
theorem dM_compare_322 : decode cM_compare 322 = .ok (.iadd, 1) := by decide +kernel
theorem dM_compare_323 : decode cM_compare 323 = .ok (.istore 5, 2) := by decide +kernel
theorem dM_compare_325 : decode cM_compare 325 = .ok (.iinc 6 1, 3) := by decide +kernel
theorem dM_compare_328 : decode cM_compare 328 = .ok (.goto (-129), 3) := by decide +kernel
theorem dM_compare_331 : decode cM_compare 331 = .ok (.return_, 1) := by decide +kernel
theorem dM_isAlike_0 : decode cM_isAlike 0 = .ok (.aload_n 0, 1) := by decide +kernel
theorem dM_isAlike_1 : decode cM_isAlike 1 = .ok (.getfield 13, 3) := by decide +kernel
theorem dM_isAlike_4 : decode cM_isAlike 4 = .ok (.bipush 40, 2) := by decide +kernel
theorem dM_isAlike_6 : decode cM_isAlike 6 = .ok (.iload_n 1, 1) := by decide +kernel
theorem dM_isAlike_7 : decode cM_isAlike 7 = .ok (.imul, 1) := by decide +kernel
theorem dM_isAlike_8 : decode cM_isAlike 8 = .ok (.iload_n 2, 1) := by decide +kernel
theorem dM_isAlike_9 : decode cM_isAlike 9 = .ok (.iadd, 1) := by decide +kernel
theorem dM_isAlike_10 : decode cM_isAlike 10 = .ok (.iaload, 1) := by decide +kernel
theorem dM_isAlike_11 : decode cM_isAlike 11 = .ok (.aload_n 0, 1) := by decide +kernel
theorem dM_isAlike_12 : decode cM_isAlike 12 = .ok (.getfield 13, 3) := by decide +kernel
theorem dM_isAlike_15 : decode cM_isAlike 15 = .ok (.bipush 40, 2) := by decide +kernel
theorem dM_isAlike_17 : decode cM_isAlike 17 = .ok (.iload_n 3, 1) := by decide +kernel
theorem dM_isAlike_18 : decode cM_isAlike 18 = .ok (.imul, 1) := by decide +kernel
theorem dM_isAlike_19 : decode cM_isAlike 19 = .ok (.iload 4, 2) := by decide +kernel
theorem dM_isAlike_21 : decode cM_isAlike 21 = .ok (.iadd, 1) := by decide +kernel
theorem dM_isAlike_22 : decode cM_isAlike 22 = .ok (.iaload, 1) := by decide +kernel
theorem dM_isAlike_23 : decode cM_isAlike 23 = .ok (.if_icmp .ne 7, 3) := by decide +kernel
theorem dM_isAlike_26 : decode cM_isAlike 26 = .ok (.iconst 1, 1) := by decide +kernel
theorem dM_isAlike_27 : decode cM_isAlike 27 = .ok (.goto 4, 3) := by decide +kernel
theorem dM_isAlike_30 : decode cM_isAlike 30 = .ok (.iconst 0, 1) := by decide +kernel
theorem dM_isAlike_31 : decode cM_isAlike 31 = .ok (.ireturn, 1) := by decide +kernel
theorem dM_map_0 : decode cM_map 0 = .ok (.iload_n 1, 1) := by decide +kernel
theorem dM_map_1 : decode cM_map 1 = .ok (.aload_n 0, 1) := by decide +kernel
theorem dM_map_2 : decode cM_map 2 = .ok (.getfield 50, 3) := by decide +kernel
theorem dM_map_5 : decode cM_map 5 = .ok (.invokestatic 46, 3) := by decide +kernel
theorem dM_map_8 : decode cM_map 8 = .ok (.ifCond .eq 23, 3) := by decide +kernel
theorem dM_map_11 : decode cM_map 11 = .ok (.iload_n 2, 1) := by decide +kernel
theorem dM_map_12 : decode cM_map 12 = .ok (.aload_n 0, 1) := by decide +kernel
theorem dM_map_13 : decode cM_map 13 = .ok (.getfield 42, 3) := by decide +kernel
theorem dM_map_16 : decode cM_map 16 = .ok (.invokestatic 46, 3) := by decide +kernel
theorem dM_map_19 : decode cM_map 19 = .ok (.ifCond .eq 12, 3) := by decide +kernel
theorem dM_map_22 : decode cM_map 22 = .ok (.aload_n 0, 1) := by decide +kernel
theorem dM_map_23 : decode cM_map 23 = .ok (.getfield 50, 3) := by decide +kernel
theorem dM_map_26 : decode cM_map 26 = .ok (.bipush 14, 2) := by decide +kernel
theorem dM_map_28 : decode cM_map 28 = .ok (.if_icmp .ne 5, 3) := by decide +kernel
theorem dM_map_31 : decode cM_map 31 = .ok (.iconst (-1), 1) := by decide +kernel
theorem dM_map_32 : decode cM_map 32 = .ok (.ireturn, 1) := by decide +kernel
theorem dM_map_33 : decode cM_map 33 = .ok (.aload_n 0, 1) := by decide +kernel
theorem dM_map_34 : decode cM_map 34 = .ok (.aload_n 0, 1) := by decide +kernel
theorem dM_map_35 : decode cM_map 35 = .ok (.getfield 26, 3) := by decide +kernel
theorem dM_map_38 : decode cM_map 38 = .ok (.iload_n 1, 1) := by decide +kernel
theorem dM_map_39 : decode cM_map 39 = .ok (.iaload, 1) := by decide +kernel
theorem dM_map_40 : decode cM_map 40 = .ok (.iload_n 2, 1) := by decide +kernel
theorem dM_map_41 : decode cM_map 41 = .ok (.invokevirtual 68, 3) := by decide +kernel
theorem dM_map_44 : decode cM_map 44 = .ok (.lconst 0, 1) := by decide +kernel
theorem dM_map_45 : decode cM_map 45 = .ok (.lstore_n 3, 1) := by decide +kernel
theorem dM_map_46 : decode cM_map 46 = .ok (.iconst 0, 1) := by decide +kernel
theorem dM_map_47 : decode cM_map 47 = .ok (.istore 5, 2) := by decide +kernel
theorem dM_map_49 : decode cM_map 49 = .ok (.iload 5, 2) := by decide +kernel
theorem dM_map_51 : decode cM_map 51 = .ok (.aload_n 0, 1) := by decide +kernel
theorem dM_map_52 : decode cM_map 52 = .ok (.getfield 7, 3) := by decide +kernel
theorem dM_map_55 : decode cM_map 55 = .ok (.aload_n 0, 1) := by decide +kernel
theorem dM_map_56 : decode cM_map 56 = .ok (.getfield 26, 3) := by decide +kernel
theorem dM_map_59 : decode cM_map 59 = .ok (.iload_n 1, 1) := by decide +kernel
theorem dM_map_60 : decode cM_map 60 = .ok (.iaload, 1) := by decide +kernel
theorem dM_map_61 : decode cM_map 61 = .ok (.iaload, 1) := by decide +kernel
theorem dM_map_62 : decode cM_map 62 = .ok (.if_icmp .ge 46, 3) := by decide +kernel
theorem dM_map_65 : decode cM_map 65 = .ok (.lload_n 3, 1) := by decide +kernel
theorem dM_map_66 : decode cM_map 66 = .ok (.aload_n 0, 1) := by decide +kernel
theorem dM_map_67 : decode cM_map 67 = .ok (.iload_n 1, 1) := by decide +kernel
theorem dM_map_68 : decode cM_map 68 = .ok (.iload 5, 2) := by decide +kernel
theorem dM_map_70 : decode cM_map 70 = .ok (.invokevirtual 61, 3) := by decide +kernel
theorem dM_map_73 : decode cM_map 73 = .ok (.ifCond .eq 26, 3) := by decide +kernel
theorem dM_map_76 : decode cM_map 76 = .ok (.aload_n 0, 1) := by decide +kernel
theorem dM_map_77 : decode cM_map 77 = .ok (.getfield 39, 3) := by decide +kernel
theorem dM_map_80 : decode cM_map 80 = .ok (.iload 5, 2) := by decide +kernel
theorem dM_map_82 : decode cM_map 82 = .ok (.iaload, 1) := by decide +kernel
theorem dM_map_83 : decode cM_map 83 = .ok (.iconst (-1), 1) := by decide +kernel
theorem dM_map_84 : decode cM_map 84 = .ok (.if_icmp .eq 15, 3) := by decide +kernel
theorem dM_map_87 : decode cM_map 87 = .ok (.lconst 1, 1) := by decide +kernel
theorem dM_map_88 : decode cM_map 88 = .ok (.aload_n 0, 1) := by decide +kernel
theorem dM_map_89 : decode cM_map 89 = .ok (.getfield 39, 3) := by decide +kernel
theorem dM_map_92 : decode cM_map 92 = .ok (.iload 5, 2) := by decide +kernel
theorem dM_map_94 : decode cM_map 94 = .ok (.iaload, 1) := by decide +kernel
theorem dM_map_95 : decode cM_map 95 = .ok (.lshl, 1) := by decide +kernel
theorem dM_map_96 : decode cM_map 96 = .ok (.goto 4, 3) := by decide +kernel
theorem dM_map_99 : decode cM_map 99 = .ok (.lconst 0, 1) := by decide +kernel
theorem dM_map_100 : decode cM_map 100 = .ok (.lor, 1) := by decide +kernel
theorem dM_map_101 : decode cM_map 101 = .ok (.lstore_n 3, 1) := by decide +kernel
theorem dM_map_102 : decode cM_map 102 = .ok (.iinc 5 1, 3) := by decide +kernel
theorem dM_map_105 : decode cM_map 105 = .ok (.goto (-56), 3) := by decide +kernel
theorem dM_map_108 : decode cM_map 108 = .ok (.aload_n 0, 1) := by decide +kernel
theorem dM_map_109 : decode cM_map 109 = .ok (.iload_n 2, 1) := by decide +kernel
theorem dM_map_110 : decode cM_map 110 = .ok (.aload_n 0, 1) := by decide +kernel
theorem dM_map_111 : decode cM_map 111 = .ok (.getfield 29, 3) := by decide +kernel
theorem dM_map_114 : decode cM_map 114 = .ok (.iload_n 1, 1) := by decide +kernel
theorem dM_map_115 : decode cM_map 115 = .ok (.iaload, 1) := by decide +kernel
theorem dM_map_116 : decode cM_map 116 = .ok (.lload_n 3, 1) := by decide +kernel
theorem dM_map_117 : decode cM_map 117 = .ok (.invokevirtual 54, 3) := by decide +kernel
theorem dM_map_120 : decode cM_map 120 = .ok (.ireturn, 1) := by decide +kernel
theorem dM_join_0 : decode cM_join 0 = .ok (.iload_n 1, 1) := by decide +kernel
theorem dM_join_1 : decode cM_join 1 = .ok (.aload_n 0, 1) := by decide +kernel
theorem dM_join_2 : decode cM_join 2 = .ok (.getfield 50, 3) := by decide +kernel
theorem dM_join_5 : decode cM_join 5 = .ok (.invokestatic 46, 3) := by decide +kernel
theorem dM_join_8 : decode cM_join 8 = .ok (.ifCond .eq 38, 3) := by decide +kernel
theorem dM_join_11 : decode cM_join 11 = .ok (.iload_n 2, 1) := by decide +kernel
theorem dM_join_12 : decode cM_join 12 = .ok (.aload_n 0, 1) := by decide +kernel
theorem dM_join_13 : decode cM_join 13 = .ok (.getfield 50, 3) := by decide +kernel
theorem dM_join_16 : decode cM_join 16 = .ok (.invokestatic 46, 3) := by decide +kernel
theorem dM_join_19 : decode cM_join 19 = .ok (.ifCond .eq 27, 3) := by decide +kernel
theorem dM_join_22 : decode cM_join 22 = .ok (.aload_n 0, 1) := by decide +kernel
theorem dM_join_23 : decode cM_join 23 = .ok (.getfield 26, 3) := by decide +kernel
theorem dM_join_26 : decode cM_join 26 = .ok (.iload_n 1, 1) := by decide +kernel
theorem dM_join_27 : decode cM_join 27 = .ok (.iaload, 1) := by decide +kernel
theorem dM_join_28 : decode cM_join 28 = .ok (.aload_n 0, 1) := by decide +kernel
theorem dM_join_29 : decode cM_join 29 = .ok (.getfield 26, 3) := by decide +kernel
theorem dM_join_32 : decode cM_join 32 = .ok (.iload_n 2, 1) := by decide +kernel
theorem dM_join_33 : decode cM_join 33 = .ok (.iaload, 1) := by decide +kernel
theorem dM_join_34 : decode cM_join 34 = .ok (.if_icmp .ne 12, 3) := by decide +kernel
theorem dM_join_37 : decode cM_join 37 = .ok (.aload_n 0, 1) := by decide +kernel
theorem dM_join_38 : decode cM_join 38 = .ok (.getfield 50, 3) := by decide +kernel
theorem dM_join_41 : decode cM_join 41 = .ok (.bipush 14, 2) := by decide +kernel
theorem dM_join_43 : decode cM_join 43 = .ok (.if_icmp .ne 5, 3) := by decide +kernel
theorem dM_join_46 : decode cM_join 46 = .ok (.iconst (-1), 1) := by decide +kernel
theorem dM_join_47 : decode cM_join 47 = .ok (.ireturn, 1) := by decide +kernel
theorem dM_join_48 : decode cM_join 48 = .ok (.aload_n 0, 1) := by decide +kernel
theorem dM_join_49 : decode cM_join 49 = .ok (.getfield 29, 3) := by decide +kernel
theorem dM_join_52 : decode cM_join 52 = .ok (.iload_n 1, 1) := by decide +kernel
theorem dM_join_53 : decode cM_join 53 = .ok (.iaload, 1) := by decide +kernel
theorem dM_join_54 : decode cM_join 54 = .ok (.aload_n 0, 1) := by decide +kernel
theorem dM_join_55 : decode cM_join 55 = .ok (.getfield 29, 3) := by decide +kernel
theorem dM_join_58 : decode cM_join 58 = .ok (.iload_n 2, 1) := by decide +kernel
theorem dM_join_59 : decode cM_join 59 = .ok (.iaload, 1) := by decide +kernel
theorem dM_join_60 : decode cM_join 60 = .ok (.iadd, 1) := by decide +kernel
theorem dM_join_61 : decode cM_join 61 = .ok (.istore_n 3, 1) := by decide +kernel
theorem dM_join_62 : decode cM_join 62 = .ok (.aload_n 0, 1) := by decide +kernel
theorem dM_join_63 : decode cM_join 63 = .ok (.aload_n 0, 1) := by decide +kernel
theorem dM_join_64 : decode cM_join 64 = .ok (.getfield 26, 3) := by decide +kernel
theorem dM_join_67 : decode cM_join 67 = .ok (.iload_n 1, 1) := by decide +kernel
theorem dM_join_68 : decode cM_join 68 = .ok (.iaload, 1) := by decide +kernel
theorem dM_join_69 : decode cM_join 69 = .ok (.iload_n 3, 1) := by decide +kernel
theorem dM_join_70 : decode cM_join 70 = .ok (.ldc 53, 2) := by decide +kernel
theorem dM_join_72 : decode cM_join 72 = .ok (.if_icmp .le 8, 3) := by decide +kernel
theorem dM_join_75 : decode cM_join 75 = .ok (.ldc 53, 2) := by decide +kernel
theorem dM_join_77 : decode cM_join 77 = .ok (.goto 4, 3) := by decide +kernel
theorem dM_join_80 : decode cM_join 80 = .ok (.iload_n 3, 1) := by decide +kernel
theorem dM_join_81 : decode cM_join 81 = .ok (.aload_n 0, 1) := by decide +kernel
theorem dM_join_82 : decode cM_join 82 = .ok (.getfield 32, 3) := by decide +kernel
theorem dM_join_85 : decode cM_join 85 = .ok (.iload_n 1, 1) := by decide +kernel
theorem dM_join_86 : decode cM_join 86 = .ok (.laload, 1) := by decide +kernel
theorem dM_join_87 : decode cM_join 87 = .ok (.aload_n 0, 1) := by decide +kernel
theorem dM_join_88 : decode cM_join 88 = .ok (.getfield 32, 3) := by decide +kernel
theorem dM_join_91 : decode cM_join 91 = .ok (.iload_n 2, 1) := by decide +kernel
theorem dM_join_92 : decode cM_join 92 = .ok (.laload, 1) := by decide +kernel
theorem dM_join_93 : decode cM_join 93 = .ok (.lor, 1) := by decide +kernel
theorem dM_join_94 : decode cM_join 94 = .ok (.invokevirtual 54, 3) := by decide +kernel
theorem dM_join_97 : decode cM_join 97 = .ok (.ireturn, 1) := by decide +kernel
theorem dM_share_0 : decode cM_share 0 = .ok (.iload_n 1, 1) := by decide +kernel
theorem dM_share_1 : decode cM_share 1 = .ok (.aload_n 0, 1) := by decide +kernel
theorem dM_share_2 : decode cM_share 2 = .ok (.getfield 50, 3) := by decide +kernel
theorem dM_share_5 : decode cM_share 5 = .ok (.invokestatic 46, 3) := by decide +kernel
theorem dM_share_8 : decode cM_share 8 = .ok (.ifCond .eq 21, 3) := by decide +kernel
theorem dM_share_11 : decode cM_share 11 = .ok (.iload_n 2, 1) := by decide +kernel
theorem dM_share_12 : decode cM_share 12 = .ok (.iconst 4, 1) := by decide +kernel
theorem dM_share_13 : decode cM_share 13 = .ok (.invokestatic 46, 3) := by decide +kernel
theorem dM_share_16 : decode cM_share 16 = .ok (.ifCond .eq 13, 3) := by decide +kernel
theorem dM_share_19 : decode cM_share 19 = .ok (.aload_n 0, 1) := by decide +kernel
theorem dM_share_20 : decode cM_share 20 = .ok (.iload_n 1, 1) := by decide +kernel
theorem dM_share_21 : decode cM_share 21 = .ok (.iload_n 2, 1) := by decide +kernel
theorem dM_share_22 : decode cM_share 22 = .ok (.iload_n 3, 1) := by decide +kernel
theorem dM_share_23 : decode cM_share 23 = .ok (.invokevirtual 72, 3) := by decide +kernel
theorem dM_share_26 : decode cM_share 26 = .ok (.goto 4, 3) := by decide +kernel
theorem dM_share_29 : decode cM_share 29 = .ok (.iconst (-1), 1) := by decide +kernel
theorem dM_share_30 : decode cM_share 30 = .ok (.ireturn, 1) := by decide +kernel
theorem dM_shareOf_0 : decode cM_shareOf 0 = .ok (.iconst 0, 1) := by decide +kernel
theorem dM_shareOf_1 : decode cM_shareOf 1 = .ok (.istore 4, 2) := by decide +kernel
theorem dM_shareOf_3 : decode cM_shareOf 3 = .ok (.aload_n 0, 1) := by decide +kernel
theorem dM_shareOf_4 : decode cM_shareOf 4 = .ok (.getfield 26, 3) := by decide +kernel
theorem dM_shareOf_7 : decode cM_shareOf 7 = .ok (.iload_n 1, 1) := by decide +kernel
theorem dM_shareOf_8 : decode cM_shareOf 8 = .ok (.iaload, 1) := by decide +kernel
theorem dM_shareOf_9 : decode cM_shareOf 9 = .ok (.istore 5, 2) := by decide +kernel
theorem dM_shareOf_11 : decode cM_shareOf 11 = .ok (.iconst 0, 1) := by decide +kernel
theorem dM_shareOf_12 : decode cM_shareOf 12 = .ok (.istore 6, 2) := by decide +kernel
theorem dM_shareOf_14 : decode cM_shareOf 14 = .ok (.iload 6, 2) := by decide +kernel
theorem dM_shareOf_16 : decode cM_shareOf 16 = .ok (.aload_n 0, 1) := by decide +kernel
theorem dM_shareOf_17 : decode cM_shareOf 17 = .ok (.getfield 7, 3) := by decide +kernel
theorem dM_shareOf_20 : decode cM_shareOf 20 = .ok (.iload 5, 2) := by decide +kernel
theorem dM_shareOf_22 : decode cM_shareOf 22 = .ok (.iaload, 1) := by decide +kernel
theorem dM_shareOf_23 : decode cM_shareOf 23 = .ok (.if_icmp .ge 78, 3) := by decide +kernel
theorem dM_shareOf_26 : decode cM_shareOf 26 = .ok (.aload_n 0, 1) := by decide +kernel
theorem dM_shareOf_27 : decode cM_shareOf 27 = .ok (.getfield 16, 3) := by decide +kernel
theorem dM_shareOf_30 : decode cM_shareOf 30 = .ok (.bipush 40, 2) := by decide +kernel
theorem dM_shareOf_32 : decode cM_shareOf 32 = .ok (.iload 5, 2) := by decide +kernel
theorem dM_shareOf_34 : decode cM_shareOf 34 = .ok (.imul, 1) := by decide +kernel
theorem dM_shareOf_35 : decode cM_shareOf 35 = .ok (.iload 6, 2) := by decide +kernel
theorem dM_shareOf_37 : decode cM_shareOf 37 = .ok (.iadd, 1) := by decide +kernel
theorem dM_shareOf_38 : decode cM_shareOf 38 = .ok (.iaload, 1) := by decide +kernel
theorem dM_shareOf_39 : decode cM_shareOf 39 = .ok (.iload_n 2, 1) := by decide +kernel
theorem dM_shareOf_40 : decode cM_shareOf 40 = .ok (.if_icmp .ne 23, 3) := by decide +kernel
theorem dM_shareOf_43 : decode cM_shareOf 43 = .ok (.aload_n 0, 1) := by decide +kernel
theorem dM_shareOf_44 : decode cM_shareOf 44 = .ok (.getfield 19, 3) := by decide +kernel
theorem dM_shareOf_47 : decode cM_shareOf 47 = .ok (.bipush 40, 2) := by decide +kernel
theorem dM_shareOf_49 : decode cM_shareOf 49 = .ok (.iload 5, 2) := by decide +kernel
theorem dM_shareOf_51 : decode cM_shareOf 51 = .ok (.imul, 1) := by decide +kernel
theorem dM_shareOf_52 : decode cM_shareOf 52 = .ok (.iload 6, 2) := by decide +kernel
theorem dM_shareOf_54 : decode cM_shareOf 54 = .ok (.iadd, 1) := by decide +kernel
theorem dM_shareOf_55 : decode cM_shareOf 55 = .ok (.baload, 1) := by decide +kernel
theorem dM_shareOf_56 : decode cM_shareOf 56 = .ok (.ifCond .ne 7, 3) := by decide +kernel
theorem dM_shareOf_59 : decode cM_shareOf 59 = .ok (.iconst 1, 1) := by decide +kernel
theorem dM_shareOf_60 : decode cM_shareOf 60 = .ok (.goto 4, 3) := by decide +kernel
theorem dM_shareOf_63 : decode cM_shareOf 63 = .ok (.iconst 0, 1) := by decide +kernel
theorem dM_shareOf_64 : decode cM_shareOf 64 = .ok (.istore 7, 2) := by decide +kernel
theorem dM_shareOf_66 : decode cM_shareOf 66 = .ok (.iload 4, 2) := by decide +kernel
theorem dM_shareOf_68 : decode cM_shareOf 68 = .ok (.iload 7, 2) := by decide +kernel
theorem dM_shareOf_70 : decode cM_shareOf 70 = .ok (.ifCond .eq 21, 3) := by decide +kernel
theorem dM_shareOf_73 : decode cM_shareOf 73 = .ok (.iload_n 3, 1) := by decide +kernel
theorem dM_shareOf_74 : decode cM_shareOf 74 = .ok (.ifCond .eq 13, 3) := by decide +kernel
theorem dM_shareOf_77 : decode cM_shareOf 77 = .ok (.aload_n 0, 1) := by decide +kernel
theorem dM_shareOf_78 : decode cM_shareOf 78 = .ok (.iload_n 1, 1) := by decide +kernel
theorem dM_shareOf_79 : decode cM_shareOf 79 = .ok (.iload 6, 2) := by decide +kernel
theorem dM_shareOf_81 : decode cM_shareOf 81 = .ok (.invokevirtual 61, 3) := by decide +kernel
theorem dM_shareOf_84 : decode cM_shareOf 84 = .ok (.ifCond .eq 7, 3) := by decide +kernel
theorem dM_shareOf_87 : decode cM_shareOf 87 = .ok (.iconst 1, 1) := by decide +kernel
theorem dM_shareOf_88 : decode cM_shareOf 88 = .ok (.goto 4, 3) := by decide +kernel
theorem dM_shareOf_91 : decode cM_shareOf 91 = .ok (.iconst 0, 1) := by decide +kernel
theorem dM_shareOf_92 : decode cM_shareOf 92 = .ok (.iadd, 1) := by decide +kernel
theorem dM_shareOf_93 : decode cM_shareOf 93 = .ok (.istore 4, 2) := by decide +kernel
theorem dM_shareOf_95 : decode cM_shareOf 95 = .ok (.iinc 6 1, 3) := by decide +kernel
theorem dM_shareOf_98 : decode cM_shareOf 98 = .ok (.goto (-84), 3) := by decide +kernel
theorem dM_shareOf_101 : decode cM_shareOf 101 = .ok (.iload 4, 2) := by decide +kernel
theorem dM_shareOf_103 : decode cM_shareOf 103 = .ok (.ireturn, 1) := by decide +kernel
theorem dM_fresh_0 : decode cM_fresh 0 = .ok (.iload_n 1, 1) := by decide +kernel
theorem dM_fresh_1 : decode cM_fresh 1 = .ok (.aload_n 0, 1) := by decide +kernel
theorem dM_fresh_2 : decode cM_fresh 2 = .ok (.getfield 50, 3) := by decide +kernel
theorem dM_fresh_5 : decode cM_fresh 5 = .ok (.invokestatic 46, 3) := by decide +kernel
theorem dM_fresh_8 : decode cM_fresh 8 = .ok (.ifCond .eq 14, 3) := by decide +kernel
theorem dM_fresh_11 : decode cM_fresh 11 = .ok (.iload_n 2, 1) := by decide +kernel
theorem dM_fresh_12 : decode cM_fresh 12 = .ok (.aload_n 0, 1) := by decide +kernel
theorem dM_fresh_13 : decode cM_fresh 13 = .ok (.getfield 42, 3) := by decide +kernel
theorem dM_fresh_16 : decode cM_fresh 16 = .ok (.invokestatic 46, 3) := by decide +kernel
theorem dM_fresh_19 : decode cM_fresh 19 = .ok (.ifCond .ne 5, 3) := by decide +kernel
theorem dM_fresh_22 : decode cM_fresh 22 = .ok (.iconst (-1), 1) := by decide +kernel
theorem dM_fresh_23 : decode cM_fresh 23 = .ok (.ireturn, 1) := by decide +kernel
theorem dM_fresh_24 : decode cM_fresh 24 = .ok (.aload_n 0, 1) := by decide +kernel
theorem dM_fresh_25 : decode cM_fresh 25 = .ok (.getfield 26, 3) := by decide +kernel
theorem dM_fresh_28 : decode cM_fresh 28 = .ok (.iload_n 1, 1) := by decide +kernel
theorem dM_fresh_29 : decode cM_fresh 29 = .ok (.iaload, 1) := by decide +kernel
theorem dM_fresh_30 : decode cM_fresh 30 = .ok (.istore 4, 2) := by decide +kernel
theorem dM_fresh_32 : decode cM_fresh 32 = .ok (.aload_n 0, 1) := by decide +kernel
theorem dM_fresh_33 : decode cM_fresh 33 = .ok (.iload_n 2, 1) := by decide +kernel
theorem dM_fresh_34 : decode cM_fresh 34 = .ok (.iload 4, 2) := by decide +kernel
theorem dM_fresh_36 : decode cM_fresh 36 = .ok (.invokevirtual 68, 3) := by decide +kernel
theorem dM_fresh_39 : decode cM_fresh 39 = .ok (.lconst 0, 1) := by decide +kernel
theorem dM_fresh_40 : decode cM_fresh 40 = .ok (.lstore 5, 2) := by decide +kernel
theorem dM_fresh_42 : decode cM_fresh 42 = .ok (.iconst 0, 1) := by decide +kernel
theorem dM_fresh_43 : decode cM_fresh 43 = .ok (.istore 7, 2) := by decide +kernel
theorem dM_fresh_45 : decode cM_fresh 45 = .ok (.iload 7, 2) := by decide +kernel
theorem dM_fresh_47 : decode cM_fresh 47 = .ok (.aload_n 0, 1) := by decide +kernel
theorem dM_fresh_48 : decode cM_fresh 48 = .ok (.getfield 7, 3) := by decide +kernel
theorem dM_fresh_51 : decode cM_fresh 51 = .ok (.iload_n 2, 1) := by decide +kernel
theorem dM_fresh_52 : decode cM_fresh 52 = .ok (.iaload, 1) := by decide +kernel
theorem dM_fresh_53 : decode cM_fresh 53 = .ok (.if_icmp .ge 38, 3) := by decide +kernel
theorem dM_fresh_56 : decode cM_fresh 56 = .ok (.lload 5, 2) := by decide +kernel
theorem dM_fresh_58 : decode cM_fresh 58 = .ok (.aload_n 0, 1) := by decide +kernel
theorem dM_fresh_59 : decode cM_fresh 59 = .ok (.getfield 39, 3) := by decide +kernel
theorem dM_fresh_62 : decode cM_fresh 62 = .ok (.iload 7, 2) := by decide +kernel
theorem dM_fresh_64 : decode cM_fresh 64 = .ok (.iaload, 1) := by decide +kernel
theorem dM_fresh_65 : decode cM_fresh 65 = .ok (.iconst (-1), 1) := by decide +kernel
theorem dM_fresh_66 : decode cM_fresh 66 = .ok (.if_icmp .ne 7, 3) := by decide +kernel
theorem dM_fresh_69 : decode cM_fresh 69 = .ok (.lconst 0, 1) := by decide +kernel
theorem dM_fresh_70 : decode cM_fresh 70 = .ok (.goto 12, 3) := by decide +kernel
theorem dM_fresh_73 : decode cM_fresh 73 = .ok (.lconst 1, 1) := by decide +kernel
theorem dM_fresh_74 : decode cM_fresh 74 = .ok (.aload_n 0, 1) := by decide +kernel
theorem dM_fresh_75 : decode cM_fresh 75 = .ok (.getfield 39, 3) := by decide +kernel
theorem dM_fresh_78 : decode cM_fresh 78 = .ok (.iload 7, 2) := by decide +kernel
theorem dM_fresh_80 : decode cM_fresh 80 = .ok (.iaload, 1) := by decide +kernel
theorem dM_fresh_81 : decode cM_fresh 81 = .ok (.lshl, 1) := by decide +kernel
theorem dM_fresh_82 : decode cM_fresh 82 = .ok (.lor, 1) := by decide +kernel
theorem dM_fresh_83 : decode cM_fresh 83 = .ok (.lstore 5, 2) := by decide +kernel
theorem dM_fresh_85 : decode cM_fresh 85 = .ok (.iinc 7 1, 3) := by decide +kernel
theorem dM_fresh_88 : decode cM_fresh 88 = .ok (.goto (-43), 3) := by decide +kernel
theorem dM_fresh_91 : decode cM_fresh 91 = .ok (.iconst 0, 1) := by decide +kernel
theorem dM_fresh_92 : decode cM_fresh 92 = .ok (.istore 7, 2) := by decide +kernel
theorem dM_fresh_94 : decode cM_fresh 94 = .ok (.iconst 0, 1) := by decide +kernel
theorem dM_fresh_95 : decode cM_fresh 95 = .ok (.istore 8, 2) := by decide +kernel
theorem dM_fresh_97 : decode cM_fresh 97 = .ok (.iload 8, 2) := by decide +kernel
theorem dM_fresh_99 : decode cM_fresh 99 = .ok (.aload_n 0, 1) := by decide +kernel
theorem dM_fresh_100 : decode cM_fresh 100 = .ok (.getfield 7, 3) := by decide +kernel
theorem dM_fresh_103 : decode cM_fresh 103 = .ok (.iload 4, 2) := by decide +kernel
theorem dM_fresh_105 : decode cM_fresh 105 = .ok (.iaload, 1) := by decide +kernel
theorem dM_fresh_106 : decode cM_fresh 106 = .ok (.if_icmp .ge 73, 3) := by decide +kernel
theorem dM_fresh_109 : decode cM_fresh 109 = .ok (.lload 5, 2) := by decide +kernel
theorem dM_fresh_111 : decode cM_fresh 111 = .ok (.iload 8, 2) := by decide +kernel
theorem dM_fresh_113 : decode cM_fresh 113 = .ok (.lshr, 1) := by decide +kernel
theorem dM_fresh_114 : decode cM_fresh 114 = .ok (.lconst 1, 1) := by decide +kernel
theorem dM_fresh_115 : decode cM_fresh 115 = .ok (.land, 1) := by decide +kernel
theorem dM_fresh_116 : decode cM_fresh 116 = .ok (.lconst 0, 1) := by decide +kernel
theorem dM_fresh_117 : decode cM_fresh 117 = .ok (.lcmp, 1) := by decide +kernel
theorem dM_fresh_118 : decode cM_fresh 118 = .ok (.ifCond .ne 23, 3) := by decide +kernel
theorem dM_fresh_121 : decode cM_fresh 121 = .ok (.aload_n 0, 1) := by decide +kernel
theorem dM_fresh_122 : decode cM_fresh 122 = .ok (.getfield 19, 3) := by decide +kernel
theorem dM_fresh_125 : decode cM_fresh 125 = .ok (.bipush 40, 2) := by decide +kernel
theorem dM_fresh_127 : decode cM_fresh 127 = .ok (.iload 4, 2) := by decide +kernel
theorem dM_fresh_129 : decode cM_fresh 129 = .ok (.imul, 1) := by decide +kernel
theorem dM_fresh_130 : decode cM_fresh 130 = .ok (.iload 8, 2) := by decide +kernel
theorem dM_fresh_132 : decode cM_fresh 132 = .ok (.iadd, 1) := by decide +kernel
theorem dM_fresh_133 : decode cM_fresh 133 = .ok (.baload, 1) := by decide +kernel
theorem dM_fresh_134 : decode cM_fresh 134 = .ok (.ifCond .ne 7, 3) := by decide +kernel
theorem dM_fresh_137 : decode cM_fresh 137 = .ok (.iconst 1, 1) := by decide +kernel
theorem dM_fresh_138 : decode cM_fresh 138 = .ok (.goto 4, 3) := by decide +kernel
theorem dM_fresh_141 : decode cM_fresh 141 = .ok (.iconst 0, 1) := by decide +kernel
theorem dM_fresh_142 : decode cM_fresh 142 = .ok (.istore 9, 2) := by decide +kernel
theorem dM_fresh_144 : decode cM_fresh 144 = .ok (.iload 7, 2) := by decide +kernel
theorem dM_fresh_146 : decode cM_fresh 146 = .ok (.iload 9, 2) := by decide +kernel
theorem dM_fresh_148 : decode cM_fresh 148 = .ok (.ifCond .eq 21, 3) := by decide +kernel
theorem dM_fresh_151 : decode cM_fresh 151 = .ok (.iload_n 3, 1) := by decide +kernel
theorem dM_fresh_152 : decode cM_fresh 152 = .ok (.ifCond .eq 13, 3) := by decide +kernel
theorem dM_fresh_155 : decode cM_fresh 155 = .ok (.aload_n 0, 1) := by decide +kernel
theorem dM_fresh_156 : decode cM_fresh 156 = .ok (.iload_n 1, 1) := by decide +kernel
theorem dM_fresh_157 : decode cM_fresh 157 = .ok (.iload 8, 2) := by decide +kernel
theorem dM_fresh_159 : decode cM_fresh 159 = .ok (.invokevirtual 61, 3) := by decide +kernel
theorem dM_fresh_162 : decode cM_fresh 162 = .ok (.ifCond .eq 7, 3) := by decide +kernel
theorem dM_fresh_165 : decode cM_fresh 165 = .ok (.iconst 1, 1) := by decide +kernel
theorem dM_fresh_166 : decode cM_fresh 166 = .ok (.goto 4, 3) := by decide +kernel
theorem dM_fresh_169 : decode cM_fresh 169 = .ok (.iconst 0, 1) := by decide +kernel
theorem dM_fresh_170 : decode cM_fresh 170 = .ok (.iadd, 1) := by decide +kernel
theorem dM_fresh_171 : decode cM_fresh 171 = .ok (.istore 7, 2) := by decide +kernel
theorem dM_fresh_173 : decode cM_fresh 173 = .ok (.iinc 8 1, 3) := by decide +kernel
theorem dM_fresh_176 : decode cM_fresh 176 = .ok (.goto (-79), 3) := by decide +kernel
theorem dM_fresh_179 : decode cM_fresh 179 = .ok (.iload 7, 2) := by decide +kernel
theorem dM_fresh_181 : decode cM_fresh 181 = .ok (.ireturn, 1) := by decide +kernel
theorem dM_falls_0 : decode cM_falls 0 = .ok (.iload_n 1, 1) := by decide +kernel
theorem dM_falls_1 : decode cM_falls 1 = .ok (.aload_n 0, 1) := by decide +kernel
theorem dM_falls_2 : decode cM_falls 2 = .ok (.getfield 50, 3) := by decide +kernel
theorem dM_falls_5 : decode cM_falls 5 = .ok (.invokestatic 46, 3) := by decide +kernel
theorem dM_falls_8 : decode cM_falls 8 = .ok (.ifCond .eq 22, 3) := by decide +kernel
theorem dM_falls_11 : decode cM_falls 11 = .ok (.iload_n 2, 1) := by decide +kernel
theorem dM_falls_12 : decode cM_falls 12 = .ok (.aload_n 0, 1) := by decide +kernel
theorem dM_falls_13 : decode cM_falls 13 = .ok (.getfield 50, 3) := by decide +kernel
theorem dM_falls_16 : decode cM_falls 16 = .ok (.invokestatic 46, 3) := by decide +kernel
theorem dM_falls_19 : decode cM_falls 19 = .ok (.ifCond .eq 11, 3) := by decide +kernel
theorem dM_falls_22 : decode cM_falls 22 = .ok (.iload_n 3, 1) := by decide +kernel
theorem dM_falls_23 : decode cM_falls 23 = .ok (.iconst 4, 1) := by decide +kernel
theorem dM_falls_24 : decode cM_falls 24 = .ok (.invokestatic 46, 3) := by decide +kernel
theorem dM_falls_27 : decode cM_falls 27 = .ok (.ifCond .ne 6, 3) := by decide +kernel
theorem dM_falls_30 : decode cM_falls 30 = .ok (.bipush (-2), 2) := by decide +kernel
theorem dM_falls_32 : decode cM_falls 32 = .ok (.ireturn, 1) := by decide +kernel
theorem dM_falls_33 : decode cM_falls 33 = .ok (.aload_n 0, 1) := by decide +kernel
theorem dM_falls_34 : decode cM_falls 34 = .ok (.iload_n 1, 1) := by decide +kernel
theorem dM_falls_35 : decode cM_falls 35 = .ok (.iload_n 3, 1) := by decide +kernel
theorem dM_falls_36 : decode cM_falls 36 = .ok (.iconst 0, 1) := by decide +kernel
theorem dM_falls_37 : decode cM_falls 37 = .ok (.invokevirtual 72, 3) := by decide +kernel
theorem dM_falls_40 : decode cM_falls 40 = .ok (.istore 4, 2) := by decide +kernel
theorem dM_falls_42 : decode cM_falls 42 = .ok (.aload_n 0, 1) := by decide +kernel
theorem dM_falls_43 : decode cM_falls 43 = .ok (.iload_n 2, 1) := by decide +kernel
theorem dM_falls_44 : decode cM_falls 44 = .ok (.iload_n 3, 1) := by decide +kernel
theorem dM_falls_45 : decode cM_falls 45 = .ok (.iconst 0, 1) := by decide +kernel
theorem dM_falls_46 : decode cM_falls 46 = .ok (.invokevirtual 72, 3) := by decide +kernel
theorem dM_falls_49 : decode cM_falls 49 = .ok (.istore 5, 2) := by decide +kernel
theorem dM_falls_51 : decode cM_falls 51 = .ok (.iload 4, 2) := by decide +kernel
theorem dM_falls_53 : decode cM_falls 53 = .ok (.ifCond .eq 8, 3) := by decide +kernel
theorem dM_falls_56 : decode cM_falls 56 = .ok (.iload 5, 2) := by decide +kernel
theorem dM_falls_58 : decode cM_falls 58 = .ok (.ifCond .ne 5, 3) := by decide +kernel
theorem dM_falls_61 : decode cM_falls 61 = .ok (.iconst (-1), 1) := by decide +kernel
theorem dM_falls_62 : decode cM_falls 62 = .ok (.ireturn, 1) := by decide +kernel
theorem dM_falls_63 : decode cM_falls 63 = .ok (.aload_n 0, 1) := by decide +kernel
theorem dM_falls_64 : decode cM_falls 64 = .ok (.iload_n 1, 1) := by decide +kernel
theorem dM_falls_65 : decode cM_falls 65 = .ok (.iload_n 3, 1) := by decide +kernel
theorem dM_falls_66 : decode cM_falls 66 = .ok (.iconst 1, 1) := by decide +kernel
theorem dM_falls_67 : decode cM_falls 67 = .ok (.invokevirtual 72, 3) := by decide +kernel
theorem dM_falls_70 : decode cM_falls 70 = .ok (.iload 5, 2) := by decide +kernel
theorem dM_falls_72 : decode cM_falls 72 = .ok (.imul, 1) := by decide +kernel
theorem dM_falls_73 : decode cM_falls 73 = .ok (.aload_n 0, 1) := by decide +kernel
theorem dM_falls_74 : decode cM_falls 74 = .ok (.iload_n 2, 1) := by decide +kernel
theorem dM_falls_75 : decode cM_falls 75 = .ok (.iload_n 3, 1) := by decide +kernel
theorem dM_falls_76 : decode cM_falls 76 = .ok (.iconst 1, 1) := by decide +kernel
theorem dM_falls_77 : decode cM_falls 77 = .ok (.invokevirtual 72, 3) := by decide +kernel
theorem dM_falls_80 : decode cM_falls 80 = .ok (.iload 4, 2) := by decide +kernel
theorem dM_falls_82 : decode cM_falls 82 = .ok (.imul, 1) := by decide +kernel
theorem dM_falls_83 : decode cM_falls 83 = .ok (.if_icmp .ge 7, 3) := by decide +kernel
theorem dM_falls_86 : decode cM_falls 86 = .ok (.iconst 1, 1) := by decide +kernel
theorem dM_falls_87 : decode cM_falls 87 = .ok (.goto 4, 3) := by decide +kernel
theorem dM_falls_90 : decode cM_falls 90 = .ok (.iconst 0, 1) := by decide +kernel
theorem dM_falls_91 : decode cM_falls 91 = .ok (.ireturn, 1) := by decide +kernel
theorem dM_dead_0 : decode cM_dead 0 = .ok (.iconst 0, 1) := by decide +kernel
theorem dM_dead_1 : decode cM_dead 1 = .ok (.istore_n 2, 1) := by decide +kernel
theorem dM_dead_2 : decode cM_dead 2 = .ok (.lconst 0, 1) := by decide +kernel
theorem dM_dead_3 : decode cM_dead 3 = .ok (.lstore_n 3, 1) := by decide +kernel
theorem dM_dead_4 : decode cM_dead 4 = .ok (.iconst 0, 1) := by decide +kernel
theorem dM_dead_5 : decode cM_dead 5 = .ok (.istore 5, 2) := by decide +kernel
theorem dM_dead_7 : decode cM_dead 7 = .ok (.iload 5, 2) := by decide +kernel
theorem dM_dead_9 : decode cM_dead 9 = .ok (.aload_n 0, 1) := by decide +kernel
theorem dM_dead_10 : decode cM_dead 10 = .ok (.getfield 50, 3) := by decide +kernel
theorem dM_dead_13 : decode cM_dead 13 = .ok (.if_icmp .ge 59, 3) := by decide +kernel
theorem dM_dead_16 : decode cM_dead 16 = .ok (.aload_n 0, 1) := by decide +kernel
theorem dM_dead_17 : decode cM_dead 17 = .ok (.getfield 26, 3) := by decide +kernel
theorem dM_dead_20 : decode cM_dead 20 = .ok (.iload 5, 2) := by decide +kernel
theorem dM_dead_22 : decode cM_dead 22 = .ok (.iaload, 1) := by decide +kernel
theorem dM_dead_23 : decode cM_dead 23 = .ok (.iload_n 1, 1) := by decide +kernel
theorem dM_dead_24 : decode cM_dead 24 = .ok (.if_icmp .ne 42, 3) := by decide +kernel
theorem dM_dead_27 : decode cM_dead 27 = .ok (.iload_n 2, 1) := by decide +kernel
theorem dM_dead_28 : decode cM_dead 28 = .ok (.aload_n 0, 1) := by decide +kernel
theorem dM_dead_29 : decode cM_dead 29 = .ok (.getfield 32, 3) := by decide +kernel
theorem dM_dead_32 : decode cM_dead 32 = .ok (.iload 5, 2) := by decide +kernel
theorem dM_dead_34 : decode cM_dead 34 = .ok (.laload, 1) := by decide +kernel
theorem dM_dead_35 : decode cM_dead 35 = .ok (.lload_n 3, 1) := by decide +kernel
theorem dM_dead_36 : decode cM_dead 36 = .ok (.ldc2_w 76, 3) := by decide +kernel
theorem dM_dead_39 : decode cM_dead 39 = .ok (.lxor, 1) := by decide +kernel
theorem dM_dead_40 : decode cM_dead 40 = .ok (.land, 1) := by decide +kernel
theorem dM_dead_41 : decode cM_dead 41 = .ok (.lconst 0, 1) := by decide +kernel
theorem dM_dead_42 : decode cM_dead 42 = .ok (.lcmp, 1) := by decide +kernel
theorem dM_dead_43 : decode cM_dead 43 = .ok (.ifCond .ne 10, 3) := by decide +kernel
theorem dM_dead_46 : decode cM_dead 46 = .ok (.iconst 1, 1) := by decide +kernel
theorem dM_dead_47 : decode cM_dead 47 = .ok (.iload 5, 2) := by decide +kernel
theorem dM_dead_49 : decode cM_dead 49 = .ok (.ishl, 1) := by decide +kernel
theorem dM_dead_50 : decode cM_dead 50 = .ok (.goto 4, 3) := by decide +kernel
theorem dM_dead_53 : decode cM_dead 53 = .ok (.iconst 0, 1) := by decide +kernel
theorem dM_dead_54 : decode cM_dead 54 = .ok (.ior, 1) := by decide +kernel
theorem dM_dead_55 : decode cM_dead 55 = .ok (.istore_n 2, 1) := by decide +kernel
theorem dM_dead_56 : decode cM_dead 56 = .ok (.lload_n 3, 1) := by decide +kernel
theorem dM_dead_57 : decode cM_dead 57 = .ok (.aload_n 0, 1) := by decide +kernel
theorem dM_dead_58 : decode cM_dead 58 = .ok (.getfield 32, 3) := by decide +kernel
theorem dM_dead_61 : decode cM_dead 61 = .ok (.iload 5, 2) := by decide +kernel
theorem dM_dead_63 : decode cM_dead 63 = .ok (.laload, 1) := by decide +kernel
theorem dM_dead_64 : decode cM_dead 64 = .ok (.lor, 1) := by decide +kernel
theorem dM_dead_65 : decode cM_dead 65 = .ok (.lstore_n 3, 1) := by decide +kernel
theorem dM_dead_66 : decode cM_dead 66 = .ok (.iinc 5 1, 3) := by decide +kernel
theorem dM_dead_69 : decode cM_dead 69 = .ok (.goto (-62), 3) := by decide +kernel
theorem dM_dead_72 : decode cM_dead 72 = .ok (.iload_n 2, 1) := by decide +kernel
theorem dM_dead_73 : decode cM_dead 73 = .ok (.ireturn, 1) := by decide +kernel
theorem dM_least_0 : decode cM_least 0 = .ok (.iload_n 1, 1) := by decide +kernel
theorem dM_least_1 : decode cM_least 1 = .ok (.aload_n 0, 1) := by decide +kernel
theorem dM_least_2 : decode cM_least 2 = .ok (.getfield 42, 3) := by decide +kernel
theorem dM_least_5 : decode cM_least 5 = .ok (.invokestatic 46, 3) := by decide +kernel
theorem dM_least_8 : decode cM_least 8 = .ok (.ifCond .ne 5, 3) := by decide +kernel
theorem dM_least_11 : decode cM_least 11 = .ok (.iconst (-1), 1) := by decide +kernel
theorem dM_least_12 : decode cM_least 12 = .ok (.ireturn, 1) := by decide +kernel
theorem dM_least_13 : decode cM_least 13 = .ok (.iconst 0, 1) := by decide +kernel
theorem dM_least_14 : decode cM_least 14 = .ok (.istore_n 2, 1) := by decide +kernel
theorem dM_least_15 : decode cM_least 15 = .ok (.lconst 0, 1) := by decide +kernel
theorem dM_least_16 : decode cM_least 16 = .ok (.lstore_n 3, 1) := by decide +kernel
theorem dM_least_17 : decode cM_least 17 = .ok (.iconst 0, 1) := by decide +kernel
theorem dM_least_18 : decode cM_least 18 = .ok (.istore 5, 2) := by decide +kernel
theorem dM_least_20 : decode cM_least 20 = .ok (.iload 5, 2) := by decide +kernel
theorem dM_least_22 : decode cM_least 22 = .ok (.aload_n 0, 1) := by decide +kernel
theorem dM_least_23 : decode cM_least 23 = .ok (.getfield 50, 3) := by decide +kernel
theorem dM_least_26 : decode cM_least 26 = .ok (.if_icmp .ge 37, 3) := by decide +kernel
theorem dM_least_29 : decode cM_least 29 = .ok (.aload_n 0, 1) := by decide +kernel
theorem dM_least_30 : decode cM_least 30 = .ok (.getfield 26, 3) := by decide +kernel
theorem dM_least_33 : decode cM_least 33 = .ok (.iload 5, 2) := by decide +kernel
theorem dM_least_35 : decode cM_least 35 = .ok (.iaload, 1) := by decide +kernel
theorem dM_least_36 : decode cM_least 36 = .ok (.iload_n 1, 1) := by decide +kernel
theorem dM_least_37 : decode cM_least 37 = .ok (.if_icmp .ne 20, 3) := by decide +kernel
theorem dM_least_40 : decode cM_least 40 = .ok (.iload_n 2, 1) := by decide +kernel
theorem dM_least_41 : decode cM_least 41 = .ok (.iconst 1, 1) := by decide +kernel
theorem dM_least_42 : decode cM_least 42 = .ok (.iload 5, 2) := by decide +kernel
theorem dM_least_44 : decode cM_least 44 = .ok (.ishl, 1) := by decide +kernel
theorem dM_least_45 : decode cM_least 45 = .ok (.ior, 1) := by decide +kernel
theorem dM_least_46 : decode cM_least 46 = .ok (.istore_n 2, 1) := by decide +kernel
theorem dM_least_47 : decode cM_least 47 = .ok (.lload_n 3, 1) := by decide +kernel
theorem dM_least_48 : decode cM_least 48 = .ok (.aload_n 0, 1) := by decide +kernel
theorem dM_least_49 : decode cM_least 49 = .ok (.getfield 32, 3) := by decide +kernel
theorem dM_least_52 : decode cM_least 52 = .ok (.iload 5, 2) := by decide +kernel
theorem dM_least_54 : decode cM_least 54 = .ok (.laload, 1) := by decide +kernel
theorem dM_least_55 : decode cM_least 55 = .ok (.lor, 1) := by decide +kernel
theorem dM_least_56 : decode cM_least 56 = .ok (.lstore_n 3, 1) := by decide +kernel
theorem dM_least_57 : decode cM_least 57 = .ok (.iinc 5 1, 3) := by decide +kernel
theorem dM_least_60 : decode cM_least 60 = .ok (.goto (-40), 3) := by decide +kernel
theorem dM_least_63 : decode cM_least 63 = .ok (.iconst (-1), 1) := by decide +kernel
theorem dM_least_64 : decode cM_least 64 = .ok (.istore 5, 2) := by decide +kernel
theorem dM_least_66 : decode cM_least 66 = .ok (.iconst 0, 1) := by decide +kernel
theorem dM_least_67 : decode cM_least 67 = .ok (.istore 6, 2) := by decide +kernel
theorem dM_least_69 : decode cM_least 69 = .ok (.iconst 0, 1) := by decide +kernel
theorem dM_least_70 : decode cM_least 70 = .ok (.istore 7, 2) := by decide +kernel
theorem dM_least_72 : decode cM_least 72 = .ok (.iload 7, 2) := by decide +kernel
theorem dM_least_74 : decode cM_least 74 = .ok (.iconst 1, 1) := by decide +kernel
theorem dM_least_75 : decode cM_least 75 = .ok (.aload_n 0, 1) := by decide +kernel
theorem dM_least_76 : decode cM_least 76 = .ok (.getfield 50, 3) := by decide +kernel
theorem dM_least_79 : decode cM_least 79 = .ok (.ishl, 1) := by decide +kernel
theorem dM_least_80 : decode cM_least 80 = .ok (.if_icmp .ge 137, 3) := by decide +kernel
theorem dM_least_83 : decode cM_least 83 = .ok (.iload 7, 2) := by decide +kernel
theorem dM_least_85 : decode cM_least 85 = .ok (.iload_n 2, 1) := by decide +kernel
theorem dM_least_86 : decode cM_least 86 = .ok (.iconst (-1), 1) := by decide +kernel
theorem dM_least_87 : decode cM_least 87 = .ok (.ixor, 1) := by decide +kernel
theorem dM_least_88 : decode cM_least 88 = .ok (.iand, 1) := by decide +kernel
theorem dM_least_89 : decode cM_least 89 = .ok (.ifCond .ne 122, 3) := by decide +kernel
theorem dM_least_92 : decode cM_least 92 = .ok (.lconst 0, 1) := by decide +kernel
theorem dM_least_93 : decode cM_least 93 = .ok (.lstore 8, 2) := by decide +kernel
theorem dM_least_95 : decode cM_least 95 = .ok (.iconst 0, 1) := by decide +kernel
theorem dM_least_96 : decode cM_least 96 = .ok (.istore 10, 2) := by decide +kernel
theorem dM_least_98 : decode cM_least 98 = .ok (.iconst 0, 1) := by decide +kernel
theorem dM_least_99 : decode cM_least 99 = .ok (.istore 11, 2) := by decide +kernel
theorem dM_least_101 : decode cM_least 101 = .ok (.iload 11, 2) := by decide +kernel
theorem dM_least_103 : decode cM_least 103 = .ok (.aload_n 0, 1) := by decide +kernel
theorem dM_least_104 : decode cM_least 104 = .ok (.getfield 50, 3) := by decide +kernel
theorem dM_least_107 : decode cM_least 107 = .ok (.if_icmp .ge 44, 3) := by decide +kernel
theorem dM_least_110 : decode cM_least 110 = .ok (.iload 7, 2) := by decide +kernel
theorem dM_least_112 : decode cM_least 112 = .ok (.iload 11, 2) := by decide +kernel
theorem dM_least_114 : decode cM_least 114 = .ok (.ishr, 1) := by decide +kernel
theorem dM_least_115 : decode cM_least 115 = .ok (.iconst 1, 1) := by decide +kernel
theorem dM_least_116 : decode cM_least 116 = .ok (.iand, 1) := by decide +kernel
theorem dM_least_117 : decode cM_least 117 = .ok (.iconst 1, 1) := by decide +kernel
theorem dM_least_118 : decode cM_least 118 = .ok (.if_icmp .ne 27, 3) := by decide +kernel
theorem dM_least_121 : decode cM_least 121 = .ok (.lload 8, 2) := by decide +kernel
theorem dM_least_123 : decode cM_least 123 = .ok (.aload_n 0, 1) := by decide +kernel
theorem dM_least_124 : decode cM_least 124 = .ok (.getfield 32, 3) := by decide +kernel
theorem dM_least_127 : decode cM_least 127 = .ok (.iload 11, 2) := by decide +kernel
theorem dM_least_129 : decode cM_least 129 = .ok (.laload, 1) := by decide +kernel
theorem dM_least_130 : decode cM_least 130 = .ok (.lor, 1) := by decide +kernel
theorem dM_least_131 : decode cM_least 131 = .ok (.lstore 8, 2) := by decide +kernel
theorem dM_least_133 : decode cM_least 133 = .ok (.iload 10, 2) := by decide +kernel
theorem dM_least_135 : decode cM_least 135 = .ok (.aload_n 0, 1) := by decide +kernel
theorem dM_least_136 : decode cM_least 136 = .ok (.getfield 29, 3) := by decide +kernel
theorem dM_least_139 : decode cM_least 139 = .ok (.iload 11, 2) := by decide +kernel
theorem dM_least_141 : decode cM_least 141 = .ok (.iaload, 1) := by decide +kernel
theorem dM_least_142 : decode cM_least 142 = .ok (.iadd, 1) := by decide +kernel
theorem dM_least_143 : decode cM_least 143 = .ok (.istore 10, 2) := by decide +kernel
theorem dM_least_145 : decode cM_least 145 = .ok (.iinc 11 1, 3) := by decide +kernel
theorem dM_least_148 : decode cM_least 148 = .ok (.goto (-47), 3) := by decide +kernel
theorem dM_least_151 : decode cM_least 151 = .ok (.iload 5, 2) := by decide +kernel
theorem dM_least_153 : decode cM_least 153 = .ok (.iconst (-1), 1) := by decide +kernel
theorem dM_least_154 : decode cM_least 154 = .ok (.if_icmp .eq 30, 3) := by decide +kernel
theorem dM_least_157 : decode cM_least 157 = .ok (.iload 10, 2) := by decide +kernel
theorem dM_least_159 : decode cM_least 159 = .ok (.iload 6, 2) := by decide +kernel
theorem dM_least_161 : decode cM_least 161 = .ok (.if_icmp .lt 23, 3) := by decide +kernel
theorem dM_least_164 : decode cM_least 164 = .ok (.iload 10, 2) := by decide +kernel
theorem dM_least_166 : decode cM_least 166 = .ok (.iload 6, 2) := by decide +kernel
theorem dM_least_168 : decode cM_least 168 = .ok (.if_icmp .ne 20, 3) := by decide +kernel
theorem dM_least_171 : decode cM_least 171 = .ok (.iload 7, 2) := by decide +kernel
theorem dM_least_173 : decode cM_least 173 = .ok (.invokestatic 78, 3) := by decide +kernel
theorem dM_least_176 : decode cM_least 176 = .ok (.iload 5, 2) := by decide +kernel
theorem dM_least_178 : decode cM_least 178 = .ok (.invokestatic 78, 3) := by decide +kernel
theorem dM_least_181 : decode cM_least 181 = .ok (.if_icmp .ge 7, 3) := by decide +kernel
theorem dM_least_184 : decode cM_least 184 = .ok (.iconst 1, 1) := by decide +kernel
theorem dM_least_185 : decode cM_least 185 = .ok (.goto 4, 3) := by decide +kernel
theorem dM_least_188 : decode cM_least 188 = .ok (.iconst 0, 1) := by decide +kernel
theorem dM_least_189 : decode cM_least 189 = .ok (.istore 11, 2) := by decide +kernel
theorem dM_least_191 : decode cM_least 191 = .ok (.lload 8, 2) := by decide +kernel
theorem dM_least_193 : decode cM_least 193 = .ok (.lload_n 3, 1) := by decide +kernel
theorem dM_least_194 : decode cM_least 194 = .ok (.lcmp, 1) := by decide +kernel
theorem dM_least_195 : decode cM_least 195 = .ok (.ifCond .ne 16, 3) := by decide +kernel
theorem dM_least_198 : decode cM_least 198 = .ok (.iload 11, 2) := by decide +kernel
theorem dM_least_200 : decode cM_least 200 = .ok (.ifCond .eq 11, 3) := by decide +kernel
theorem dM_least_203 : decode cM_least 203 = .ok (.iload 7, 2) := by decide +kernel
theorem dM_least_205 : decode cM_least 205 = .ok (.istore 5, 2) := by decide +kernel
theorem dM_least_207 : decode cM_least 207 = .ok (.iload 10, 2) := by decide +kernel
theorem dM_least_209 : decode cM_least 209 = .ok (.istore 6, 2) := by decide +kernel
theorem dM_least_211 : decode cM_least 211 = .ok (.iinc 7 1, 3) := by decide +kernel
theorem dM_least_214 : decode cM_least 214 = .ok (.goto (-142), 3) := by decide +kernel
theorem dM_least_217 : decode cM_least 217 = .ok (.aload_n 0, 1) := by decide +kernel
theorem dM_least_218 : decode cM_least 218 = .ok (.iload 5, 2) := by decide +kernel
theorem dM_least_220 : decode cM_least 220 = .ok (.putfield 82, 3) := by decide +kernel
theorem dM_least_223 : decode cM_least 223 = .ok (.iload 6, 2) := by decide +kernel
theorem dM_least_225 : decode cM_least 225 = .ok (.ireturn, 1) := by decide +kernel
theorem dM_ones_0 : decode cM_ones 0 = .ok (.iconst 0, 1) := by decide +kernel
theorem dM_ones_1 : decode cM_ones 1 = .ok (.istore_n 1, 1) := by decide +kernel
theorem dM_ones_2 : decode cM_ones 2 = .ok (.iconst 0, 1) := by decide +kernel
theorem dM_ones_3 : decode cM_ones 3 = .ok (.istore_n 2, 1) := by decide +kernel
theorem dM_ones_4 : decode cM_ones 4 = .ok (.iload_n 2, 1) := by decide +kernel
theorem dM_ones_5 : decode cM_ones 5 = .ok (.bipush 14, 2) := by decide +kernel
theorem dM_ones_7 : decode cM_ones 7 = .ok (.if_icmp .ge 17, 3) := by decide +kernel
theorem dM_ones_10 : decode cM_ones 10 = .ok (.iload_n 1, 1) := by decide +kernel
theorem dM_ones_11 : decode cM_ones 11 = .ok (.iload_n 0, 1) := by decide +kernel
theorem dM_ones_12 : decode cM_ones 12 = .ok (.iload_n 2, 1) := by decide +kernel
theorem dM_ones_13 : decode cM_ones 13 = .ok (.ishr, 1) := by decide +kernel
theorem dM_ones_14 : decode cM_ones 14 = .ok (.iconst 1, 1) := by decide +kernel
theorem dM_ones_15 : decode cM_ones 15 = .ok (.iand, 1) := by decide +kernel
theorem dM_ones_16 : decode cM_ones 16 = .ok (.iadd, 1) := by decide +kernel
theorem dM_ones_17 : decode cM_ones 17 = .ok (.istore_n 1, 1) := by decide +kernel
theorem dM_ones_18 : decode cM_ones 18 = .ok (.iinc 2 1, 3) := by decide +kernel
theorem dM_ones_21 : decode cM_ones 21 = .ok (.goto (-17), 3) := by decide +kernel
theorem dM_ones_24 : decode cM_ones 24 = .ok (.iload_n 1, 1) := by decide +kernel
theorem dM_ones_25 : decode cM_ones 25 = .ok (.ireturn, 1) := by decide +kernel
theorem dM_chosen_0 : decode cM_chosen 0 = .ok (.aload_n 0, 1) := by decide +kernel
theorem dM_chosen_1 : decode cM_chosen 1 = .ok (.getfield 82, 3) := by decide +kernel
theorem dM_chosen_4 : decode cM_chosen 4 = .ok (.ireturn, 1) := by decide +kernel
theorem dM_about_0 : decode cM_about 0 = .ok (.iload_n 1, 1) := by decide +kernel
theorem dM_about_1 : decode cM_about 1 = .ok (.aload_n 0, 1) := by decide +kernel
theorem dM_about_2 : decode cM_about 2 = .ok (.getfield 50, 3) := by decide +kernel
theorem dM_about_5 : decode cM_about 5 = .ok (.invokestatic 46, 3) := by decide +kernel
theorem dM_about_8 : decode cM_about 8 = .ok (.ifCond .ne 5, 3) := by decide +kernel
theorem dM_about_11 : decode cM_about 11 = .ok (.iconst (-1), 1) := by decide +kernel
theorem dM_about_12 : decode cM_about 12 = .ok (.ireturn, 1) := by decide +kernel
theorem dM_about_13 : decode cM_about 13 = .ok (.iload_n 2, 1) := by decide +kernel
theorem dM_about_14 : decode cM_about 14 = .ok (.ifCond .ne 10, 3) := by decide +kernel
theorem dM_about_17 : decode cM_about 17 = .ok (.aload_n 0, 1) := by decide +kernel
theorem dM_about_18 : decode cM_about 18 = .ok (.getfield 26, 3) := by decide +kernel
theorem dM_about_21 : decode cM_about 21 = .ok (.iload_n 1, 1) := by decide +kernel
theorem dM_about_22 : decode cM_about 22 = .ok (.iaload, 1) := by decide +kernel
theorem dM_about_23 : decode cM_about 23 = .ok (.ireturn, 1) := by decide +kernel
theorem dM_about_24 : decode cM_about 24 = .ok (.iconst 0, 1) := by decide +kernel
theorem dM_about_25 : decode cM_about 25 = .ok (.istore_n 3, 1) := by decide +kernel
theorem dM_about_26 : decode cM_about 26 = .ok (.iconst 0, 1) := by decide +kernel
theorem dM_about_27 : decode cM_about 27 = .ok (.istore 4, 2) := by decide +kernel
theorem dM_about_29 : decode cM_about 29 = .ok (.iload 4, 2) := by decide +kernel
theorem dM_about_31 : decode cM_about 31 = .ok (.bipush 40, 2) := by decide +kernel
theorem dM_about_33 : decode cM_about 33 = .ok (.if_icmp .ge 27, 3) := by decide +kernel
theorem dM_about_36 : decode cM_about 36 = .ok (.iload_n 3, 1) := by decide +kernel
theorem dM_about_37 : decode cM_about 37 = .ok (.aload_n 0, 1) := by decide +kernel
theorem dM_about_38 : decode cM_about 38 = .ok (.iload_n 1, 1) := by decide +kernel
theorem dM_about_39 : decode cM_about 39 = .ok (.iload 4, 2) := by decide +kernel
theorem dM_about_41 : decode cM_about 41 = .ok (.invokevirtual 61, 3) := by decide +kernel
theorem dM_about_44 : decode cM_about 44 = .ok (.ifCond .eq 7, 3) := by decide +kernel
theorem dM_about_47 : decode cM_about 47 = .ok (.iconst 1, 1) := by decide +kernel
theorem dM_about_48 : decode cM_about 48 = .ok (.goto 4, 3) := by decide +kernel
theorem dM_about_51 : decode cM_about 51 = .ok (.iconst 0, 1) := by decide +kernel
theorem dM_about_52 : decode cM_about 52 = .ok (.iadd, 1) := by decide +kernel
theorem dM_about_53 : decode cM_about 53 = .ok (.istore_n 3, 1) := by decide +kernel
theorem dM_about_54 : decode cM_about 54 = .ok (.iinc 4 1, 3) := by decide +kernel
theorem dM_about_57 : decode cM_about 57 = .ok (.goto (-28), 3) := by decide +kernel
theorem dM_about_60 : decode cM_about 60 = .ok (.iload_n 2, 1) := by decide +kernel
theorem dM_about_61 : decode cM_about 61 = .ok (.iconst 1, 1) := by decide +kernel
theorem dM_about_62 : decode cM_about 62 = .ok (.if_icmp .ne 12, 3) := by decide +kernel
theorem dM_about_65 : decode cM_about 65 = .ok (.aload_n 0, 1) := by decide +kernel
theorem dM_about_66 : decode cM_about 66 = .ok (.getfield 29, 3) := by decide +kernel
theorem dM_about_69 : decode cM_about 69 = .ok (.iload_n 1, 1) := by decide +kernel
theorem dM_about_70 : decode cM_about 70 = .ok (.iaload, 1) := by decide +kernel
theorem dM_about_71 : decode cM_about 71 = .ok (.goto 13, 3) := by decide +kernel
theorem dM_about_74 : decode cM_about 74 = .ok (.iload_n 2, 1) := by decide +kernel
theorem dM_about_75 : decode cM_about 75 = .ok (.iconst 2, 1) := by decide +kernel
theorem dM_about_76 : decode cM_about 76 = .ok (.if_icmp .ne 7, 3) := by decide +kernel
theorem dM_about_79 : decode cM_about 79 = .ok (.iload_n 3, 1) := by decide +kernel
theorem dM_about_80 : decode cM_about 80 = .ok (.goto 4, 3) := by decide +kernel
theorem dM_about_83 : decode cM_about 83 = .ok (.iconst (-1), 1) := by decide +kernel
theorem dM_about_84 : decode cM_about 84 = .ok (.ireturn, 1) := by decide +kernel
theorem dL_law_0 : decode cL_law 0 = .ok (.new 7, 3) := by decide +kernel
theorem dL_law_3 : decode cL_law 3 = .ok (.dup, 1) := by decide +kernel
theorem dL_law_4 : decode cL_law 4 = .ok (.invokespecial 9, 3) := by decide +kernel
theorem dL_law_7 : decode cL_law 7 = .ok (.astore_n 1, 1) := by decide +kernel
theorem dL_law_8 : decode cL_law 8 = .ok (.new 10, 3) := by decide +kernel
theorem dL_law_11 : decode cL_law 11 = .ok (.dup, 1) := by decide +kernel
theorem dL_law_12 : decode cL_law 12 = .ok (.invokespecial 12, 3) := by decide +kernel
theorem dL_law_15 : decode cL_law 15 = .ok (.astore_n 2, 1) := by decide +kernel
theorem dL_law_16 : decode cL_law 16 = .ok (.iconst 0, 1) := by decide +kernel
theorem dL_law_17 : decode cL_law 17 = .ok (.istore_n 3, 1) := by decide +kernel
theorem dL_law_18 : decode cL_law 18 = .ok (.iload_n 3, 1) := by decide +kernel
theorem dL_law_19 : decode cL_law 19 = .ok (.aload_n 0, 1) := by decide +kernel
theorem dL_law_20 : decode cL_law 20 = .ok (.arraylength, 1) := by decide +kernel
theorem dL_law_21 : decode cL_law 21 = .ok (.iconst 5, 1) := by decide +kernel
theorem dL_law_22 : decode cL_law 22 = .ok (.isub, 1) := by decide +kernel
theorem dL_law_23 : decode cL_law 23 = .ok (.if_icmp .gt 661, 3) := by decide +kernel
theorem dL_law_26 : decode cL_law 26 = .ok (.aload_n 0, 1) := by decide +kernel
theorem dL_law_27 : decode cL_law 27 = .ok (.iload_n 3, 1) := by decide +kernel
theorem dL_law_28 : decode cL_law 28 = .ok (.iaload, 1) := by decide +kernel
theorem dL_law_29 : decode cL_law 29 = .ok (.bipush 15, 2) := by decide +kernel
theorem dL_law_31 : decode cL_law 31 = .ok (.iand, 1) := by decide +kernel
theorem dL_law_32 : decode cL_law 32 = .ok (.tableswitch 646 0 15 #[80, 93, 162, 185, 218, 251, 284, 317, 350, 393, 452, 511, 554, 577, 600, 613], 80) := by decide +kernel
theorem dL_law_112 : decode cL_law 112 = .ok (.aload_n 1, 1) := by decide +kernel
theorem dL_law_113 : decode cL_law 113 = .ok (.invokevirtual 13, 3) := by decide +kernel
theorem dL_law_116 : decode cL_law 116 = .ok (.aload_n 2, 1) := by decide +kernel
theorem dL_law_117 : decode cL_law 117 = .ok (.invokevirtual 17, 3) := by decide +kernel
theorem dL_law_120 : decode cL_law 120 = .ok (.if_icmp .eq 558, 3) := by decide +kernel
theorem dL_law_123 : decode cL_law 123 = .ok (.iconst 0, 1) := by decide +kernel
theorem dL_law_124 : decode cL_law 124 = .ok (.ireturn, 1) := by decide +kernel
theorem dL_law_125 : decode cL_law 125 = .ok (.aload_n 1, 1) := by decide +kernel
theorem dL_law_126 : decode cL_law 126 = .ok (.aload_n 0, 1) := by decide +kernel
theorem dL_law_127 : decode cL_law 127 = .ok (.iload_n 3, 1) := by decide +kernel
theorem dL_law_128 : decode cL_law 128 = .ok (.iconst 1, 1) := by decide +kernel
theorem dL_law_129 : decode cL_law 129 = .ok (.iadd, 1) := by decide +kernel
theorem dL_law_130 : decode cL_law 130 = .ok (.iaload, 1) := by decide +kernel
theorem dL_law_131 : decode cL_law 131 = .ok (.aload_n 0, 1) := by decide +kernel
theorem dL_law_132 : decode cL_law 132 = .ok (.iload_n 3, 1) := by decide +kernel
theorem dL_law_133 : decode cL_law 133 = .ok (.iconst 2, 1) := by decide +kernel
theorem dL_law_134 : decode cL_law 134 = .ok (.iadd, 1) := by decide +kernel
theorem dL_law_135 : decode cL_law 135 = .ok (.iaload, 1) := by decide +kernel
theorem dL_law_136 : decode cL_law 136 = .ok (.aload_n 0, 1) := by decide +kernel
theorem dL_law_137 : decode cL_law 137 = .ok (.iload_n 3, 1) := by decide +kernel
theorem dL_law_138 : decode cL_law 138 = .ok (.iconst 3, 1) := by decide +kernel
theorem dL_law_139 : decode cL_law 139 = .ok (.iadd, 1) := by decide +kernel
theorem dL_law_140 : decode cL_law 140 = .ok (.iaload, 1) := by decide +kernel
theorem dL_law_141 : decode cL_law 141 = .ok (.aload_n 0, 1) := by decide +kernel
theorem dL_law_142 : decode cL_law 142 = .ok (.iload_n 3, 1) := by decide +kernel
theorem dL_law_143 : decode cL_law 143 = .ok (.iconst 4, 1) := by decide +kernel
theorem dL_law_144 : decode cL_law 144 = .ok (.iadd, 1) := by decide +kernel
theorem dL_law_145 : decode cL_law 145 = .ok (.iaload, 1) := by decide +kernel
theorem dL_law_146 : decode cL_law 146 = .ok (.ifCond .eq 7, 3) := by decide +kernel
theorem dL_law_149 : decode cL_law 149 = .ok (.iconst 1, 1) := by decide +kernel
theorem dL_law_150 : decode cL_law 150 = .ok (.goto 4, 3) := by decide +kernel
theorem dL_law_153 : decode cL_law 153 = .ok (.iconst 0, 1) := by decide +kernel
theorem dL_law_154 : decode cL_law 154 = .ok (.invokevirtual 18, 3) := by decide +kernel
theorem dL_law_157 : decode cL_law 157 = .ok (.aload_n 2, 1) := by decide +kernel
theorem dL_law_158 : decode cL_law 158 = .ok (.aload_n 0, 1) := by decide +kernel
theorem dL_law_159 : decode cL_law 159 = .ok (.iload_n 3, 1) := by decide +kernel
theorem dL_law_160 : decode cL_law 160 = .ok (.iconst 1, 1) := by decide +kernel
theorem dL_law_161 : decode cL_law 161 = .ok (.iadd, 1) := by decide +kernel
theorem dL_law_162 : decode cL_law 162 = .ok (.iaload, 1) := by decide +kernel
theorem dL_law_163 : decode cL_law 163 = .ok (.aload_n 0, 1) := by decide +kernel
theorem dL_law_164 : decode cL_law 164 = .ok (.iload_n 3, 1) := by decide +kernel
theorem dL_law_165 : decode cL_law 165 = .ok (.iconst 2, 1) := by decide +kernel
theorem dL_law_166 : decode cL_law 166 = .ok (.iadd, 1) := by decide +kernel
theorem dL_law_167 : decode cL_law 167 = .ok (.iaload, 1) := by decide +kernel
theorem dL_law_168 : decode cL_law 168 = .ok (.aload_n 0, 1) := by decide +kernel
theorem dL_law_169 : decode cL_law 169 = .ok (.iload_n 3, 1) := by decide +kernel
theorem dL_law_170 : decode cL_law 170 = .ok (.iconst 3, 1) := by decide +kernel
theorem dL_law_171 : decode cL_law 171 = .ok (.iadd, 1) := by decide +kernel
theorem dL_law_172 : decode cL_law 172 = .ok (.iaload, 1) := by decide +kernel
theorem dL_law_173 : decode cL_law 173 = .ok (.aload_n 0, 1) := by decide +kernel
theorem dL_law_174 : decode cL_law 174 = .ok (.iload_n 3, 1) := by decide +kernel
theorem dL_law_175 : decode cL_law 175 = .ok (.iconst 4, 1) := by decide +kernel
theorem dL_law_176 : decode cL_law 176 = .ok (.iadd, 1) := by decide +kernel
theorem dL_law_177 : decode cL_law 177 = .ok (.iaload, 1) := by decide +kernel
theorem dL_law_178 : decode cL_law 178 = .ok (.ifCond .eq 7, 3) := by decide +kernel
theorem dL_law_181 : decode cL_law 181 = .ok (.iconst 1, 1) := by decide +kernel
theorem dL_law_182 : decode cL_law 182 = .ok (.goto 4, 3) := by decide +kernel
theorem dL_law_185 : decode cL_law 185 = .ok (.iconst 0, 1) := by decide +kernel
theorem dL_law_186 : decode cL_law 186 = .ok (.invokevirtual 22, 3) := by decide +kernel
theorem dL_law_189 : decode cL_law 189 = .ok (.if_icmp .eq 489, 3) := by decide +kernel
theorem dL_law_192 : decode cL_law 192 = .ok (.iconst 0, 1) := by decide +kernel
theorem dL_law_193 : decode cL_law 193 = .ok (.ireturn, 1) := by decide +kernel
theorem dL_law_194 : decode cL_law 194 = .ok (.aload_n 1, 1) := by decide +kernel
theorem dL_law_195 : decode cL_law 195 = .ok (.aload_n 0, 1) := by decide +kernel
theorem dL_law_196 : decode cL_law 196 = .ok (.iload_n 3, 1) := by decide +kernel
theorem dL_law_197 : decode cL_law 197 = .ok (.iconst 1, 1) := by decide +kernel
theorem dL_law_198 : decode cL_law 198 = .ok (.iadd, 1) := by decide +kernel
theorem dL_law_199 : decode cL_law 199 = .ok (.iaload, 1) := by decide +kernel
theorem dL_law_200 : decode cL_law 200 = .ok (.invokevirtual 23, 3) := by decide +kernel
theorem dL_law_203 : decode cL_law 203 = .ok (.aload_n 2, 1) := by decide +kernel
theorem dL_law_204 : decode cL_law 204 = .ok (.aload_n 0, 1) := by decide +kernel
theorem dL_law_205 : decode cL_law 205 = .ok (.iload_n 3, 1) := by decide +kernel
theorem dL_law_206 : decode cL_law 206 = .ok (.iconst 1, 1) := by decide +kernel
theorem dL_law_207 : decode cL_law 207 = .ok (.iadd, 1) := by decide +kernel
theorem dL_law_208 : decode cL_law 208 = .ok (.iaload, 1) := by decide +kernel
theorem dL_law_209 : decode cL_law 209 = .ok (.invokevirtual 27, 3) := by decide +kernel
theorem dL_law_212 : decode cL_law 212 = .ok (.if_icmp .eq 466, 3) := by decide +kernel
theorem dL_law_215 : decode cL_law 215 = .ok (.iconst 0, 1) := by decide +kernel
theorem dL_law_216 : decode cL_law 216 = .ok (.ireturn, 1) := by decide +kernel
theorem dL_law_217 : decode cL_law 217 = .ok (.aload_n 1, 1) := by decide +kernel
theorem dL_law_218 : decode cL_law 218 = .ok (.aload_n 0, 1) := by decide +kernel
theorem dL_law_219 : decode cL_law 219 = .ok (.iload_n 3, 1) := by decide +kernel
theorem dL_law_220 : decode cL_law 220 = .ok (.iconst 1, 1) := by decide +kernel
theorem dL_law_221 : decode cL_law 221 = .ok (.iadd, 1) := by decide +kernel
theorem dL_law_222 : decode cL_law 222 = .ok (.iaload, 1) := by decide +kernel
theorem dL_law_223 : decode cL_law 223 = .ok (.aload_n 0, 1) := by decide +kernel
theorem dL_law_224 : decode cL_law 224 = .ok (.iload_n 3, 1) := by decide +kernel
theorem dL_law_225 : decode cL_law 225 = .ok (.iconst 2, 1) := by decide +kernel
theorem dL_law_226 : decode cL_law 226 = .ok (.iadd, 1) := by decide +kernel
theorem dL_law_227 : decode cL_law 227 = .ok (.iaload, 1) := by decide +kernel
theorem dL_law_228 : decode cL_law 228 = .ok (.invokevirtual 28, 3) := by decide +kernel
theorem dL_law_231 : decode cL_law 231 = .ok (.aload_n 2, 1) := by decide +kernel
theorem dL_law_232 : decode cL_law 232 = .ok (.aload_n 0, 1) := by decide +kernel
theorem dL_law_233 : decode cL_law 233 = .ok (.iload_n 3, 1) := by decide +kernel
theorem dL_law_234 : decode cL_law 234 = .ok (.iconst 1, 1) := by decide +kernel
theorem dL_law_235 : decode cL_law 235 = .ok (.iadd, 1) := by decide +kernel
theorem dL_law_236 : decode cL_law 236 = .ok (.iaload, 1) := by decide +kernel
theorem dL_law_237 : decode cL_law 237 = .ok (.aload_n 0, 1) := by decide +kernel
theorem dL_law_238 : decode cL_law 238 = .ok (.iload_n 3, 1) := by decide +kernel
theorem dL_law_239 : decode cL_law 239 = .ok (.iconst 2, 1) := by decide +kernel
theorem dL_law_240 : decode cL_law 240 = .ok (.iadd, 1) := by decide +kernel
theorem dL_law_241 : decode cL_law 241 = .ok (.iaload, 1) := by decide +kernel
theorem dL_law_242 : decode cL_law 242 = .ok (.invokevirtual 32, 3) := by decide +kernel
theorem dL_law_245 : decode cL_law 245 = .ok (.if_icmp .eq 433, 3) := by decide +kernel
theorem dL_law_248 : decode cL_law 248 = .ok (.iconst 0, 1) := by decide +kernel
theorem dL_law_249 : decode cL_law 249 = .ok (.ireturn, 1) := by decide +kernel
theorem dL_law_250 : decode cL_law 250 = .ok (.aload_n 1, 1) := by decide +kernel
theorem dL_law_251 : decode cL_law 251 = .ok (.aload_n 0, 1) := by decide +kernel
theorem dL_law_252 : decode cL_law 252 = .ok (.iload_n 3, 1) := by decide +kernel
theorem dL_law_253 : decode cL_law 253 = .ok (.iconst 1, 1) := by decide +kernel
theorem dL_law_254 : decode cL_law 254 = .ok (.iadd, 1) := by decide +kernel
theorem dL_law_255 : decode cL_law 255 = .ok (.iaload, 1) := by decide +kernel
theorem dL_law_256 : decode cL_law 256 = .ok (.aload_n 0, 1) := by decide +kernel
theorem dL_law_257 : decode cL_law 257 = .ok (.iload_n 3, 1) := by decide +kernel
theorem dL_law_258 : decode cL_law 258 = .ok (.iconst 2, 1) := by decide +kernel
theorem dL_law_259 : decode cL_law 259 = .ok (.iadd, 1) := by decide +kernel
theorem dL_law_260 : decode cL_law 260 = .ok (.iaload, 1) := by decide +kernel
theorem dL_law_261 : decode cL_law 261 = .ok (.invokevirtual 33, 3) := by decide +kernel
theorem dL_law_264 : decode cL_law 264 = .ok (.aload_n 2, 1) := by decide +kernel
theorem dL_law_265 : decode cL_law 265 = .ok (.aload_n 0, 1) := by decide +kernel
theorem dL_law_266 : decode cL_law 266 = .ok (.iload_n 3, 1) := by decide +kernel
theorem dL_law_267 : decode cL_law 267 = .ok (.iconst 1, 1) := by decide +kernel
theorem dL_law_268 : decode cL_law 268 = .ok (.iadd, 1) := by decide +kernel
theorem dL_law_269 : decode cL_law 269 = .ok (.iaload, 1) := by decide +kernel
theorem dL_law_270 : decode cL_law 270 = .ok (.aload_n 0, 1) := by decide +kernel
theorem dL_law_271 : decode cL_law 271 = .ok (.iload_n 3, 1) := by decide +kernel
theorem dL_law_272 : decode cL_law 272 = .ok (.iconst 2, 1) := by decide +kernel
theorem dL_law_273 : decode cL_law 273 = .ok (.iadd, 1) := by decide +kernel
theorem dL_law_274 : decode cL_law 274 = .ok (.iaload, 1) := by decide +kernel
theorem dL_law_275 : decode cL_law 275 = .ok (.invokevirtual 37, 3) := by decide +kernel
theorem dL_law_278 : decode cL_law 278 = .ok (.if_icmp .eq 400, 3) := by decide +kernel
theorem dL_law_281 : decode cL_law 281 = .ok (.iconst 0, 1) := by decide +kernel
theorem dL_law_282 : decode cL_law 282 = .ok (.ireturn, 1) := by decide +kernel
theorem dL_law_283 : decode cL_law 283 = .ok (.aload_n 1, 1) := by decide +kernel
theorem dL_law_284 : decode cL_law 284 = .ok (.aload_n 0, 1) := by decide +kernel
theorem dL_law_285 : decode cL_law 285 = .ok (.iload_n 3, 1) := by decide +kernel
theorem dL_law_286 : decode cL_law 286 = .ok (.iconst 1, 1) := by decide +kernel
theorem dL_law_287 : decode cL_law 287 = .ok (.iadd, 1) := by decide +kernel
theorem dL_law_288 : decode cL_law 288 = .ok (.iaload, 1) := by decide +kernel
theorem dL_law_289 : decode cL_law 289 = .ok (.aload_n 0, 1) := by decide +kernel
theorem dL_law_290 : decode cL_law 290 = .ok (.iload_n 3, 1) := by decide +kernel
theorem dL_law_291 : decode cL_law 291 = .ok (.iconst 2, 1) := by decide +kernel
theorem dL_law_292 : decode cL_law 292 = .ok (.iadd, 1) := by decide +kernel
theorem dL_law_293 : decode cL_law 293 = .ok (.iaload, 1) := by decide +kernel
theorem dL_law_294 : decode cL_law 294 = .ok (.invokevirtual 38, 3) := by decide +kernel
theorem dL_law_297 : decode cL_law 297 = .ok (.aload_n 2, 1) := by decide +kernel
theorem dL_law_298 : decode cL_law 298 = .ok (.aload_n 0, 1) := by decide +kernel
theorem dL_law_299 : decode cL_law 299 = .ok (.iload_n 3, 1) := by decide +kernel
theorem dL_law_300 : decode cL_law 300 = .ok (.iconst 1, 1) := by decide +kernel
theorem dL_law_301 : decode cL_law 301 = .ok (.iadd, 1) := by decide +kernel
theorem dL_law_302 : decode cL_law 302 = .ok (.iaload, 1) := by decide +kernel
theorem dL_law_303 : decode cL_law 303 = .ok (.aload_n 0, 1) := by decide +kernel
theorem dL_law_304 : decode cL_law 304 = .ok (.iload_n 3, 1) := by decide +kernel
theorem dL_law_305 : decode cL_law 305 = .ok (.iconst 2, 1) := by decide +kernel
theorem dL_law_306 : decode cL_law 306 = .ok (.iadd, 1) := by decide +kernel
theorem dL_law_307 : decode cL_law 307 = .ok (.iaload, 1) := by decide +kernel
theorem dL_law_308 : decode cL_law 308 = .ok (.invokevirtual 41, 3) := by decide +kernel
theorem dL_law_311 : decode cL_law 311 = .ok (.if_icmp .eq 367, 3) := by decide +kernel
theorem dL_law_314 : decode cL_law 314 = .ok (.iconst 0, 1) := by decide +kernel
theorem dL_law_315 : decode cL_law 315 = .ok (.ireturn, 1) := by decide +kernel
theorem dL_law_316 : decode cL_law 316 = .ok (.aload_n 1, 1) := by decide +kernel
theorem dL_law_317 : decode cL_law 317 = .ok (.aload_n 0, 1) := by decide +kernel
theorem dL_law_318 : decode cL_law 318 = .ok (.iload_n 3, 1) := by decide +kernel
theorem dL_law_319 : decode cL_law 319 = .ok (.iconst 1, 1) := by decide +kernel
theorem dL_law_320 : decode cL_law 320 = .ok (.iadd, 1) := by decide +kernel
theorem dL_law_321 : decode cL_law 321 = .ok (.iaload, 1) := by decide +kernel
theorem dL_law_322 : decode cL_law 322 = .ok (.aload_n 0, 1) := by decide +kernel
theorem dL_law_323 : decode cL_law 323 = .ok (.iload_n 3, 1) := by decide +kernel
theorem dL_law_324 : decode cL_law 324 = .ok (.iconst 2, 1) := by decide +kernel
theorem dL_law_325 : decode cL_law 325 = .ok (.iadd, 1) := by decide +kernel
theorem dL_law_326 : decode cL_law 326 = .ok (.iaload, 1) := by decide +kernel
theorem dL_law_327 : decode cL_law 327 = .ok (.invokevirtual 42, 3) := by decide +kernel
theorem dL_law_330 : decode cL_law 330 = .ok (.aload_n 2, 1) := by decide +kernel
theorem dL_law_331 : decode cL_law 331 = .ok (.aload_n 0, 1) := by decide +kernel
theorem dL_law_332 : decode cL_law 332 = .ok (.iload_n 3, 1) := by decide +kernel
theorem dL_law_333 : decode cL_law 333 = .ok (.iconst 1, 1) := by decide +kernel
theorem dL_law_334 : decode cL_law 334 = .ok (.iadd, 1) := by decide +kernel
theorem dL_law_335 : decode cL_law 335 = .ok (.iaload, 1) := by decide +kernel
theorem dL_law_336 : decode cL_law 336 = .ok (.aload_n 0, 1) := by decide +kernel
theorem dL_law_337 : decode cL_law 337 = .ok (.iload_n 3, 1) := by decide +kernel
theorem dL_law_338 : decode cL_law 338 = .ok (.iconst 2, 1) := by decide +kernel
theorem dL_law_339 : decode cL_law 339 = .ok (.iadd, 1) := by decide +kernel
theorem dL_law_340 : decode cL_law 340 = .ok (.iaload, 1) := by decide +kernel
theorem dL_law_341 : decode cL_law 341 = .ok (.invokevirtual 45, 3) := by decide +kernel
theorem dL_law_344 : decode cL_law 344 = .ok (.if_icmp .eq 334, 3) := by decide +kernel
theorem dL_law_347 : decode cL_law 347 = .ok (.iconst 0, 1) := by decide +kernel
theorem dL_law_348 : decode cL_law 348 = .ok (.ireturn, 1) := by decide +kernel
theorem dL_law_349 : decode cL_law 349 = .ok (.aload_n 1, 1) := by decide +kernel
theorem dL_law_350 : decode cL_law 350 = .ok (.aload_n 0, 1) := by decide +kernel
theorem dL_law_351 : decode cL_law 351 = .ok (.iload_n 3, 1) := by decide +kernel
theorem dL_law_352 : decode cL_law 352 = .ok (.iconst 1, 1) := by decide +kernel
theorem dL_law_353 : decode cL_law 353 = .ok (.iadd, 1) := by decide +kernel
theorem dL_law_354 : decode cL_law 354 = .ok (.iaload, 1) := by decide +kernel
theorem dL_law_355 : decode cL_law 355 = .ok (.aload_n 0, 1) := by decide +kernel
theorem dL_law_356 : decode cL_law 356 = .ok (.iload_n 3, 1) := by decide +kernel
theorem dL_law_357 : decode cL_law 357 = .ok (.iconst 2, 1) := by decide +kernel
theorem dL_law_358 : decode cL_law 358 = .ok (.iadd, 1) := by decide +kernel
theorem dL_law_359 : decode cL_law 359 = .ok (.iaload, 1) := by decide +kernel
theorem dL_law_360 : decode cL_law 360 = .ok (.invokevirtual 46, 3) := by decide +kernel
theorem dL_law_363 : decode cL_law 363 = .ok (.aload_n 2, 1) := by decide +kernel
theorem dL_law_364 : decode cL_law 364 = .ok (.aload_n 0, 1) := by decide +kernel
theorem dL_law_365 : decode cL_law 365 = .ok (.iload_n 3, 1) := by decide +kernel
theorem dL_law_366 : decode cL_law 366 = .ok (.iconst 1, 1) := by decide +kernel
theorem dL_law_367 : decode cL_law 367 = .ok (.iadd, 1) := by decide +kernel
theorem dL_law_368 : decode cL_law 368 = .ok (.iaload, 1) := by decide +kernel
theorem dL_law_369 : decode cL_law 369 = .ok (.aload_n 0, 1) := by decide +kernel
theorem dL_law_370 : decode cL_law 370 = .ok (.iload_n 3, 1) := by decide +kernel
theorem dL_law_371 : decode cL_law 371 = .ok (.iconst 2, 1) := by decide +kernel
theorem dL_law_372 : decode cL_law 372 = .ok (.iadd, 1) := by decide +kernel
theorem dL_law_373 : decode cL_law 373 = .ok (.iaload, 1) := by decide +kernel
theorem dL_law_374 : decode cL_law 374 = .ok (.invokevirtual 49, 3) := by decide +kernel
theorem dL_law_377 : decode cL_law 377 = .ok (.if_icmp .eq 301, 3) := by decide +kernel
theorem dL_law_380 : decode cL_law 380 = .ok (.iconst 0, 1) := by decide +kernel
theorem dL_law_381 : decode cL_law 381 = .ok (.ireturn, 1) := by decide +kernel
theorem dL_law_382 : decode cL_law 382 = .ok (.aload_n 1, 1) := by decide +kernel
theorem dL_law_383 : decode cL_law 383 = .ok (.aload_n 0, 1) := by decide +kernel
theorem dL_law_384 : decode cL_law 384 = .ok (.iload_n 3, 1) := by decide +kernel
theorem dL_law_385 : decode cL_law 385 = .ok (.iconst 1, 1) := by decide +kernel
theorem dL_law_386 : decode cL_law 386 = .ok (.iadd, 1) := by decide +kernel
theorem dL_law_387 : decode cL_law 387 = .ok (.iaload, 1) := by decide +kernel
theorem dL_law_388 : decode cL_law 388 = .ok (.aload_n 0, 1) := by decide +kernel
theorem dL_law_389 : decode cL_law 389 = .ok (.iload_n 3, 1) := by decide +kernel
theorem dL_law_390 : decode cL_law 390 = .ok (.iconst 2, 1) := by decide +kernel
theorem dL_law_391 : decode cL_law 391 = .ok (.iadd, 1) := by decide +kernel
theorem dL_law_392 : decode cL_law 392 = .ok (.iaload, 1) := by decide +kernel
theorem dL_law_393 : decode cL_law 393 = .ok (.aload_n 0, 1) := by decide +kernel
theorem dL_law_394 : decode cL_law 394 = .ok (.iload_n 3, 1) := by decide +kernel
theorem dL_law_395 : decode cL_law 395 = .ok (.iconst 3, 1) := by decide +kernel
theorem dL_law_396 : decode cL_law 396 = .ok (.iadd, 1) := by decide +kernel
theorem dL_law_397 : decode cL_law 397 = .ok (.iaload, 1) := by decide +kernel
theorem dL_law_398 : decode cL_law 398 = .ok (.invokevirtual 50, 3) := by decide +kernel
theorem dL_law_401 : decode cL_law 401 = .ok (.aload_n 2, 1) := by decide +kernel
theorem dL_law_402 : decode cL_law 402 = .ok (.aload_n 0, 1) := by decide +kernel
theorem dL_law_403 : decode cL_law 403 = .ok (.iload_n 3, 1) := by decide +kernel
theorem dL_law_404 : decode cL_law 404 = .ok (.iconst 1, 1) := by decide +kernel
theorem dL_law_405 : decode cL_law 405 = .ok (.iadd, 1) := by decide +kernel
theorem dL_law_406 : decode cL_law 406 = .ok (.iaload, 1) := by decide +kernel
theorem dL_law_407 : decode cL_law 407 = .ok (.aload_n 0, 1) := by decide +kernel
theorem dL_law_408 : decode cL_law 408 = .ok (.iload_n 3, 1) := by decide +kernel
theorem dL_law_409 : decode cL_law 409 = .ok (.iconst 2, 1) := by decide +kernel
theorem dL_law_410 : decode cL_law 410 = .ok (.iadd, 1) := by decide +kernel
theorem dL_law_411 : decode cL_law 411 = .ok (.iaload, 1) := by decide +kernel
theorem dL_law_412 : decode cL_law 412 = .ok (.aload_n 0, 1) := by decide +kernel
theorem dL_law_413 : decode cL_law 413 = .ok (.iload_n 3, 1) := by decide +kernel
theorem dL_law_414 : decode cL_law 414 = .ok (.iconst 3, 1) := by decide +kernel
theorem dL_law_415 : decode cL_law 415 = .ok (.iadd, 1) := by decide +kernel
theorem dL_law_416 : decode cL_law 416 = .ok (.iaload, 1) := by decide +kernel
theorem dL_law_417 : decode cL_law 417 = .ok (.invokevirtual 54, 3) := by decide +kernel
theorem dL_law_420 : decode cL_law 420 = .ok (.if_icmp .eq 258, 3) := by decide +kernel
theorem dL_law_423 : decode cL_law 423 = .ok (.iconst 0, 1) := by decide +kernel
theorem dL_law_424 : decode cL_law 424 = .ok (.ireturn, 1) := by decide +kernel
theorem dL_law_425 : decode cL_law 425 = .ok (.aload_n 1, 1) := by decide +kernel
theorem dL_law_426 : decode cL_law 426 = .ok (.aload_n 0, 1) := by decide +kernel
theorem dL_law_427 : decode cL_law 427 = .ok (.iload_n 3, 1) := by decide +kernel
theorem dL_law_428 : decode cL_law 428 = .ok (.iconst 1, 1) := by decide +kernel
theorem dL_law_429 : decode cL_law 429 = .ok (.iadd, 1) := by decide +kernel
theorem dL_law_430 : decode cL_law 430 = .ok (.iaload, 1) := by decide +kernel
theorem dL_law_431 : decode cL_law 431 = .ok (.aload_n 0, 1) := by decide +kernel
theorem dL_law_432 : decode cL_law 432 = .ok (.iload_n 3, 1) := by decide +kernel
theorem dL_law_433 : decode cL_law 433 = .ok (.iconst 2, 1) := by decide +kernel
theorem dL_law_434 : decode cL_law 434 = .ok (.iadd, 1) := by decide +kernel
theorem dL_law_435 : decode cL_law 435 = .ok (.iaload, 1) := by decide +kernel
theorem dL_law_436 : decode cL_law 436 = .ok (.aload_n 0, 1) := by decide +kernel
theorem dL_law_437 : decode cL_law 437 = .ok (.iload_n 3, 1) := by decide +kernel
theorem dL_law_438 : decode cL_law 438 = .ok (.iconst 3, 1) := by decide +kernel
theorem dL_law_439 : decode cL_law 439 = .ok (.iadd, 1) := by decide +kernel
theorem dL_law_440 : decode cL_law 440 = .ok (.iaload, 1) := by decide +kernel
theorem dL_law_441 : decode cL_law 441 = .ok (.ifCond .eq 7, 3) := by decide +kernel
theorem dL_law_444 : decode cL_law 444 = .ok (.iconst 1, 1) := by decide +kernel
theorem dL_law_445 : decode cL_law 445 = .ok (.goto 4, 3) := by decide +kernel
theorem dL_law_448 : decode cL_law 448 = .ok (.iconst 0, 1) := by decide +kernel
theorem dL_law_449 : decode cL_law 449 = .ok (.invokevirtual 55, 3) := by decide +kernel
theorem dL_law_452 : decode cL_law 452 = .ok (.aload_n 2, 1) := by decide +kernel
theorem dL_law_453 : decode cL_law 453 = .ok (.aload_n 0, 1) := by decide +kernel
theorem dL_law_454 : decode cL_law 454 = .ok (.iload_n 3, 1) := by decide +kernel
theorem dL_law_455 : decode cL_law 455 = .ok (.iconst 1, 1) := by decide +kernel
theorem dL_law_456 : decode cL_law 456 = .ok (.iadd, 1) := by decide +kernel
theorem dL_law_457 : decode cL_law 457 = .ok (.iaload, 1) := by decide +kernel
theorem dL_law_458 : decode cL_law 458 = .ok (.aload_n 0, 1) := by decide +kernel
theorem dL_law_459 : decode cL_law 459 = .ok (.iload_n 3, 1) := by decide +kernel
theorem dL_law_460 : decode cL_law 460 = .ok (.iconst 2, 1) := by decide +kernel
theorem dL_law_461 : decode cL_law 461 = .ok (.iadd, 1) := by decide +kernel
theorem dL_law_462 : decode cL_law 462 = .ok (.iaload, 1) := by decide +kernel
theorem dL_law_463 : decode cL_law 463 = .ok (.aload_n 0, 1) := by decide +kernel
theorem dL_law_464 : decode cL_law 464 = .ok (.iload_n 3, 1) := by decide +kernel
theorem dL_law_465 : decode cL_law 465 = .ok (.iconst 3, 1) := by decide +kernel
theorem dL_law_466 : decode cL_law 466 = .ok (.iadd, 1) := by decide +kernel
theorem dL_law_467 : decode cL_law 467 = .ok (.iaload, 1) := by decide +kernel
theorem dL_law_468 : decode cL_law 468 = .ok (.ifCond .eq 7, 3) := by decide +kernel
theorem dL_law_471 : decode cL_law 471 = .ok (.iconst 1, 1) := by decide +kernel
theorem dL_law_472 : decode cL_law 472 = .ok (.goto 4, 3) := by decide +kernel
theorem dL_law_475 : decode cL_law 475 = .ok (.iconst 0, 1) := by decide +kernel
theorem dL_law_476 : decode cL_law 476 = .ok (.invokevirtual 59, 3) := by decide +kernel
theorem dL_law_479 : decode cL_law 479 = .ok (.if_icmp .eq 199, 3) := by decide +kernel
theorem dL_law_482 : decode cL_law 482 = .ok (.iconst 0, 1) := by decide +kernel
theorem dL_law_483 : decode cL_law 483 = .ok (.ireturn, 1) := by decide +kernel
theorem dL_law_484 : decode cL_law 484 = .ok (.aload_n 1, 1) := by decide +kernel
theorem dL_law_485 : decode cL_law 485 = .ok (.aload_n 0, 1) := by decide +kernel
theorem dL_law_486 : decode cL_law 486 = .ok (.iload_n 3, 1) := by decide +kernel
theorem dL_law_487 : decode cL_law 487 = .ok (.iconst 1, 1) := by decide +kernel
theorem dL_law_488 : decode cL_law 488 = .ok (.iadd, 1) := by decide +kernel
theorem dL_law_489 : decode cL_law 489 = .ok (.iaload, 1) := by decide +kernel
theorem dL_law_490 : decode cL_law 490 = .ok (.aload_n 0, 1) := by decide +kernel
theorem dL_law_491 : decode cL_law 491 = .ok (.iload_n 3, 1) := by decide +kernel
theorem dL_law_492 : decode cL_law 492 = .ok (.iconst 2, 1) := by decide +kernel
theorem dL_law_493 : decode cL_law 493 = .ok (.iadd, 1) := by decide +kernel
theorem dL_law_494 : decode cL_law 494 = .ok (.iaload, 1) := by decide +kernel
theorem dL_law_495 : decode cL_law 495 = .ok (.aload_n 0, 1) := by decide +kernel
theorem dL_law_496 : decode cL_law 496 = .ok (.iload_n 3, 1) := by decide +kernel
theorem dL_law_497 : decode cL_law 497 = .ok (.iconst 3, 1) := by decide +kernel
theorem dL_law_498 : decode cL_law 498 = .ok (.iadd, 1) := by decide +kernel
theorem dL_law_499 : decode cL_law 499 = .ok (.iaload, 1) := by decide +kernel
theorem dL_law_500 : decode cL_law 500 = .ok (.ifCond .eq 7, 3) := by decide +kernel
theorem dL_law_503 : decode cL_law 503 = .ok (.iconst 1, 1) := by decide +kernel
theorem dL_law_504 : decode cL_law 504 = .ok (.goto 4, 3) := by decide +kernel
theorem dL_law_507 : decode cL_law 507 = .ok (.iconst 0, 1) := by decide +kernel
theorem dL_law_508 : decode cL_law 508 = .ok (.invokevirtual 60, 3) := by decide +kernel
theorem dL_law_511 : decode cL_law 511 = .ok (.aload_n 2, 1) := by decide +kernel
theorem dL_law_512 : decode cL_law 512 = .ok (.aload_n 0, 1) := by decide +kernel
theorem dL_law_513 : decode cL_law 513 = .ok (.iload_n 3, 1) := by decide +kernel
theorem dL_law_514 : decode cL_law 514 = .ok (.iconst 1, 1) := by decide +kernel
theorem dL_law_515 : decode cL_law 515 = .ok (.iadd, 1) := by decide +kernel
theorem dL_law_516 : decode cL_law 516 = .ok (.iaload, 1) := by decide +kernel
theorem dL_law_517 : decode cL_law 517 = .ok (.aload_n 0, 1) := by decide +kernel
theorem dL_law_518 : decode cL_law 518 = .ok (.iload_n 3, 1) := by decide +kernel
theorem dL_law_519 : decode cL_law 519 = .ok (.iconst 2, 1) := by decide +kernel
theorem dL_law_520 : decode cL_law 520 = .ok (.iadd, 1) := by decide +kernel
theorem dL_law_521 : decode cL_law 521 = .ok (.iaload, 1) := by decide +kernel
theorem dL_law_522 : decode cL_law 522 = .ok (.aload_n 0, 1) := by decide +kernel
theorem dL_law_523 : decode cL_law 523 = .ok (.iload_n 3, 1) := by decide +kernel
theorem dL_law_524 : decode cL_law 524 = .ok (.iconst 3, 1) := by decide +kernel
theorem dL_law_525 : decode cL_law 525 = .ok (.iadd, 1) := by decide +kernel
theorem dL_law_526 : decode cL_law 526 = .ok (.iaload, 1) := by decide +kernel
theorem dL_law_527 : decode cL_law 527 = .ok (.ifCond .eq 7, 3) := by decide +kernel
theorem dL_law_530 : decode cL_law 530 = .ok (.iconst 1, 1) := by decide +kernel
theorem dL_law_531 : decode cL_law 531 = .ok (.goto 4, 3) := by decide +kernel
theorem dL_law_534 : decode cL_law 534 = .ok (.iconst 0, 1) := by decide +kernel
theorem dL_law_535 : decode cL_law 535 = .ok (.invokevirtual 63, 3) := by decide +kernel
theorem dL_law_538 : decode cL_law 538 = .ok (.if_icmp .eq 140, 3) := by decide +kernel
theorem dL_law_541 : decode cL_law 541 = .ok (.iconst 0, 1) := by decide +kernel
theorem dL_law_542 : decode cL_law 542 = .ok (.ireturn, 1) := by decide +kernel
theorem dL_law_543 : decode cL_law 543 = .ok (.aload_n 1, 1) := by decide +kernel
theorem dL_law_544 : decode cL_law 544 = .ok (.aload_n 0, 1) := by decide +kernel
theorem dL_law_545 : decode cL_law 545 = .ok (.iload_n 3, 1) := by decide +kernel
theorem dL_law_546 : decode cL_law 546 = .ok (.iconst 1, 1) := by decide +kernel
theorem dL_law_547 : decode cL_law 547 = .ok (.iadd, 1) := by decide +kernel
theorem dL_law_548 : decode cL_law 548 = .ok (.iaload, 1) := by decide +kernel
theorem dL_law_549 : decode cL_law 549 = .ok (.aload_n 0, 1) := by decide +kernel
theorem dL_law_550 : decode cL_law 550 = .ok (.iload_n 3, 1) := by decide +kernel
theorem dL_law_551 : decode cL_law 551 = .ok (.iconst 2, 1) := by decide +kernel
theorem dL_law_552 : decode cL_law 552 = .ok (.iadd, 1) := by decide +kernel
theorem dL_law_553 : decode cL_law 553 = .ok (.iaload, 1) := by decide +kernel
theorem dL_law_554 : decode cL_law 554 = .ok (.aload_n 0, 1) := by decide +kernel
theorem dL_law_555 : decode cL_law 555 = .ok (.iload_n 3, 1) := by decide +kernel
theorem dL_law_556 : decode cL_law 556 = .ok (.iconst 3, 1) := by decide +kernel
theorem dL_law_557 : decode cL_law 557 = .ok (.iadd, 1) := by decide +kernel
theorem dL_law_558 : decode cL_law 558 = .ok (.iaload, 1) := by decide +kernel
theorem dL_law_559 : decode cL_law 559 = .ok (.invokevirtual 64, 3) := by decide +kernel
theorem dL_law_562 : decode cL_law 562 = .ok (.aload_n 2, 1) := by decide +kernel
theorem dL_law_563 : decode cL_law 563 = .ok (.aload_n 0, 1) := by decide +kernel
theorem dL_law_564 : decode cL_law 564 = .ok (.iload_n 3, 1) := by decide +kernel
theorem dL_law_565 : decode cL_law 565 = .ok (.iconst 1, 1) := by decide +kernel
theorem dL_law_566 : decode cL_law 566 = .ok (.iadd, 1) := by decide +kernel
theorem dL_law_567 : decode cL_law 567 = .ok (.iaload, 1) := by decide +kernel
theorem dL_law_568 : decode cL_law 568 = .ok (.aload_n 0, 1) := by decide +kernel
theorem dL_law_569 : decode cL_law 569 = .ok (.iload_n 3, 1) := by decide +kernel
theorem dL_law_570 : decode cL_law 570 = .ok (.iconst 2, 1) := by decide +kernel
theorem dL_law_571 : decode cL_law 571 = .ok (.iadd, 1) := by decide +kernel
theorem dL_law_572 : decode cL_law 572 = .ok (.iaload, 1) := by decide +kernel
theorem dL_law_573 : decode cL_law 573 = .ok (.aload_n 0, 1) := by decide +kernel
theorem dL_law_574 : decode cL_law 574 = .ok (.iload_n 3, 1) := by decide +kernel
theorem dL_law_575 : decode cL_law 575 = .ok (.iconst 3, 1) := by decide +kernel
theorem dL_law_576 : decode cL_law 576 = .ok (.iadd, 1) := by decide +kernel
theorem dL_law_577 : decode cL_law 577 = .ok (.iaload, 1) := by decide +kernel
theorem dL_law_578 : decode cL_law 578 = .ok (.invokevirtual 67, 3) := by decide +kernel
theorem dL_law_581 : decode cL_law 581 = .ok (.if_icmp .eq 97, 3) := by decide +kernel
theorem dL_law_584 : decode cL_law 584 = .ok (.iconst 0, 1) := by decide +kernel
theorem dL_law_585 : decode cL_law 585 = .ok (.ireturn, 1) := by decide +kernel
theorem dL_law_586 : decode cL_law 586 = .ok (.aload_n 1, 1) := by decide +kernel
theorem dL_law_587 : decode cL_law 587 = .ok (.aload_n 0, 1) := by decide +kernel
theorem dL_law_588 : decode cL_law 588 = .ok (.iload_n 3, 1) := by decide +kernel
theorem dL_law_589 : decode cL_law 589 = .ok (.iconst 1, 1) := by decide +kernel
theorem dL_law_590 : decode cL_law 590 = .ok (.iadd, 1) := by decide +kernel
theorem dL_law_591 : decode cL_law 591 = .ok (.iaload, 1) := by decide +kernel
theorem dL_law_592 : decode cL_law 592 = .ok (.invokevirtual 68, 3) := by decide +kernel
theorem dL_law_595 : decode cL_law 595 = .ok (.aload_n 2, 1) := by decide +kernel
theorem dL_law_596 : decode cL_law 596 = .ok (.aload_n 0, 1) := by decide +kernel
theorem dL_law_597 : decode cL_law 597 = .ok (.iload_n 3, 1) := by decide +kernel
theorem dL_law_598 : decode cL_law 598 = .ok (.iconst 1, 1) := by decide +kernel
theorem dL_law_599 : decode cL_law 599 = .ok (.iadd, 1) := by decide +kernel
theorem dL_law_600 : decode cL_law 600 = .ok (.iaload, 1) := by decide +kernel
theorem dL_law_601 : decode cL_law 601 = .ok (.invokevirtual 71, 3) := by decide +kernel
theorem dL_law_604 : decode cL_law 604 = .ok (.if_icmp .eq 74, 3) := by decide +kernel
theorem dL_law_607 : decode cL_law 607 = .ok (.iconst 0, 1) := by decide +kernel
theorem dL_law_608 : decode cL_law 608 = .ok (.ireturn, 1) := by decide +kernel
theorem dL_law_609 : decode cL_law 609 = .ok (.aload_n 1, 1) := by decide +kernel
theorem dL_law_610 : decode cL_law 610 = .ok (.aload_n 0, 1) := by decide +kernel
theorem dL_law_611 : decode cL_law 611 = .ok (.iload_n 3, 1) := by decide +kernel
theorem dL_law_612 : decode cL_law 612 = .ok (.iconst 1, 1) := by decide +kernel
theorem dL_law_613 : decode cL_law 613 = .ok (.iadd, 1) := by decide +kernel
theorem dL_law_614 : decode cL_law 614 = .ok (.iaload, 1) := by decide +kernel
theorem dL_law_615 : decode cL_law 615 = .ok (.invokevirtual 72, 3) := by decide +kernel
theorem dL_law_618 : decode cL_law 618 = .ok (.aload_n 2, 1) := by decide +kernel
theorem dL_law_619 : decode cL_law 619 = .ok (.aload_n 0, 1) := by decide +kernel
theorem dL_law_620 : decode cL_law 620 = .ok (.iload_n 3, 1) := by decide +kernel
theorem dL_law_621 : decode cL_law 621 = .ok (.iconst 1, 1) := by decide +kernel
theorem dL_law_622 : decode cL_law 622 = .ok (.iadd, 1) := by decide +kernel
theorem dL_law_623 : decode cL_law 623 = .ok (.iaload, 1) := by decide +kernel
theorem dL_law_624 : decode cL_law 624 = .ok (.invokevirtual 75, 3) := by decide +kernel
theorem dL_law_627 : decode cL_law 627 = .ok (.if_icmp .eq 51, 3) := by decide +kernel
theorem dL_law_630 : decode cL_law 630 = .ok (.iconst 0, 1) := by decide +kernel
theorem dL_law_631 : decode cL_law 631 = .ok (.ireturn, 1) := by decide +kernel
theorem dL_law_632 : decode cL_law 632 = .ok (.aload_n 1, 1) := by decide +kernel
theorem dL_law_633 : decode cL_law 633 = .ok (.invokevirtual 76, 3) := by decide +kernel
theorem dL_law_636 : decode cL_law 636 = .ok (.aload_n 2, 1) := by decide +kernel
theorem dL_law_637 : decode cL_law 637 = .ok (.invokevirtual 79, 3) := by decide +kernel
theorem dL_law_640 : decode cL_law 640 = .ok (.if_icmp .eq 38, 3) := by decide +kernel
theorem dL_law_643 : decode cL_law 643 = .ok (.iconst 0, 1) := by decide +kernel
theorem dL_law_644 : decode cL_law 644 = .ok (.ireturn, 1) := by decide +kernel
theorem dL_law_645 : decode cL_law 645 = .ok (.aload_n 1, 1) := by decide +kernel
theorem dL_law_646 : decode cL_law 646 = .ok (.aload_n 0, 1) := by decide +kernel
theorem dL_law_647 : decode cL_law 647 = .ok (.iload_n 3, 1) := by decide +kernel
theorem dL_law_648 : decode cL_law 648 = .ok (.iconst 1, 1) := by decide +kernel
theorem dL_law_649 : decode cL_law 649 = .ok (.iadd, 1) := by decide +kernel
theorem dL_law_650 : decode cL_law 650 = .ok (.iaload, 1) := by decide +kernel
theorem dL_law_651 : decode cL_law 651 = .ok (.aload_n 0, 1) := by decide +kernel
theorem dL_law_652 : decode cL_law 652 = .ok (.iload_n 3, 1) := by decide +kernel
theorem dL_law_653 : decode cL_law 653 = .ok (.iconst 2, 1) := by decide +kernel
theorem dL_law_654 : decode cL_law 654 = .ok (.iadd, 1) := by decide +kernel
theorem dL_law_655 : decode cL_law 655 = .ok (.iaload, 1) := by decide +kernel
theorem dL_law_656 : decode cL_law 656 = .ok (.invokevirtual 80, 3) := by decide +kernel
theorem dL_law_659 : decode cL_law 659 = .ok (.aload_n 2, 1) := by decide +kernel
theorem dL_law_660 : decode cL_law 660 = .ok (.aload_n 0, 1) := by decide +kernel
theorem dL_law_661 : decode cL_law 661 = .ok (.iload_n 3, 1) := by decide +kernel
theorem dL_law_662 : decode cL_law 662 = .ok (.iconst 1, 1) := by decide +kernel
theorem dL_law_663 : decode cL_law 663 = .ok (.iadd, 1) := by decide +kernel
theorem dL_law_664 : decode cL_law 664 = .ok (.iaload, 1) := by decide +kernel
theorem dL_law_665 : decode cL_law 665 = .ok (.aload_n 0, 1) := by decide +kernel
theorem dL_law_666 : decode cL_law 666 = .ok (.iload_n 3, 1) := by decide +kernel
theorem dL_law_667 : decode cL_law 667 = .ok (.iconst 2, 1) := by decide +kernel
theorem dL_law_668 : decode cL_law 668 = .ok (.iadd, 1) := by decide +kernel
theorem dL_law_669 : decode cL_law 669 = .ok (.iaload, 1) := by decide +kernel
theorem dL_law_670 : decode cL_law 670 = .ok (.invokevirtual 83, 3) := by decide +kernel
theorem dL_law_673 : decode cL_law 673 = .ok (.if_icmp .eq 5, 3) := by decide +kernel
theorem dL_law_676 : decode cL_law 676 = .ok (.iconst 0, 1) := by decide +kernel
theorem dL_law_677 : decode cL_law 677 = .ok (.ireturn, 1) := by decide +kernel
theorem dL_law_678 : decode cL_law 678 = .ok (.iinc 3 5, 3) := by decide +kernel
theorem dL_law_681 : decode cL_law 681 = .ok (.goto (-663), 3) := by decide +kernel
theorem dL_law_684 : decode cL_law 684 = .ok (.iconst 1, 1) := by decide +kernel
theorem dL_law_685 : decode cL_law 685 = .ok (.ireturn, 1) := by decide +kernel
