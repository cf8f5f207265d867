theorem dC_init_0 : decode cC_init 0 = .ok (.aload_n 0, 1) := by decide +kernel
theorem dC_init_1 : decode cC_init 1 = .ok (.invokespecial 3, 3) := by decide +kernel
theorem dC_init_4 : decode cC_init 4 = .ok (.aload_n 0, 1) := by decide +kernel
theorem dC_init_5 : decode cC_init 5 = .ok (.iconst 0, 1) := by decide +kernel
theorem dC_init_6 : decode cC_init 6 = .ok (.putfield 9, 3) := by decide +kernel
theorem dC_init_9 : decode cC_init 9 = .ok (.aload_n 0, 1) := by decide +kernel
theorem dC_init_10 : decode cC_init 10 = .ok (.bipush 8, 2) := by decide +kernel
theorem dC_init_12 : decode cC_init 12 = .ok (.newarray .int, 2) := by decide +kernel
theorem dC_init_14 : decode cC_init 14 = .ok (.putfield 13, 3) := by decide +kernel
theorem dC_init_17 : decode cC_init 17 = .ok (.aload_n 0, 1) := by decide +kernel
theorem dC_init_18 : decode cC_init 18 = .ok (.bipush 8, 2) := by decide +kernel
theorem dC_init_20 : decode cC_init 20 = .ok (.newarray .boolean, 2) := by decide +kernel
theorem dC_init_22 : decode cC_init 22 = .ok (.putfield 17, 3) := by decide +kernel
theorem dC_init_25 : decode cC_init 25 = .ok (.aload_n 0, 1) := by decide +kernel
theorem dC_init_26 : decode cC_init 26 = .ok (.bipush 8, 2) := by decide +kernel
theorem dC_init_28 : decode cC_init 28 = .ok (.bipush 40, 2) := by decide +kernel
theorem dC_init_30 : decode cC_init 30 = .ok (.multianewarray 21 2, 4) := by decide +kernel
theorem dC_init_34 : decode cC_init 34 = .ok (.putfield 23, 3) := by decide +kernel
theorem dC_init_37 : decode cC_init 37 = .ok (.aload_n 0, 1) := by decide +kernel
theorem dC_init_38 : decode cC_init 38 = .ok (.bipush 8, 2) := by decide +kernel
theorem dC_init_40 : decode cC_init 40 = .ok (.iconst 4, 1) := by decide +kernel
theorem dC_init_41 : decode cC_init 41 = .ok (.multianewarray 26 2, 4) := by decide +kernel
theorem dC_init_45 : decode cC_init 45 = .ok (.putfield 28, 3) := by decide +kernel
theorem dC_init_48 : decode cC_init 48 = .ok (.aload_n 0, 1) := by decide +kernel
theorem dC_init_49 : decode cC_init 49 = .ok (.iconst 0, 1) := by decide +kernel
theorem dC_init_50 : decode cC_init 50 = .ok (.putfield 31, 3) := by decide +kernel
theorem dC_init_53 : decode cC_init 53 = .ok (.aload_n 0, 1) := by decide +kernel
theorem dC_init_54 : decode cC_init 54 = .ok (.bipush 14, 2) := by decide +kernel
theorem dC_init_56 : decode cC_init 56 = .ok (.newarray .int, 2) := by decide +kernel
theorem dC_init_58 : decode cC_init 58 = .ok (.putfield 34, 3) := by decide +kernel
theorem dC_init_61 : decode cC_init 61 = .ok (.aload_n 0, 1) := by decide +kernel
theorem dC_init_62 : decode cC_init 62 = .ok (.bipush 14, 2) := by decide +kernel
theorem dC_init_64 : decode cC_init 64 = .ok (.newarray .int, 2) := by decide +kernel
theorem dC_init_66 : decode cC_init 66 = .ok (.putfield 37, 3) := by decide +kernel
theorem dC_init_69 : decode cC_init 69 = .ok (.aload_n 0, 1) := by decide +kernel
theorem dC_init_70 : decode cC_init 70 = .ok (.bipush 14, 2) := by decide +kernel
theorem dC_init_72 : decode cC_init 72 = .ok (.newarray .long, 2) := by decide +kernel
theorem dC_init_74 : decode cC_init 74 = .ok (.putfield 40, 3) := by decide +kernel
theorem dC_init_77 : decode cC_init 77 = .ok (.aload_n 0, 1) := by decide +kernel
theorem dC_init_78 : decode cC_init 78 = .ok (.bipush 41, 2) := by decide +kernel
theorem dC_init_80 : decode cC_init 80 = .ok (.bipush 41, 2) := by decide +kernel
theorem dC_init_82 : decode cC_init 82 = .ok (.multianewarray 21 2, 4) := by decide +kernel
theorem dC_init_86 : decode cC_init 86 = .ok (.putfield 44, 3) := by decide +kernel
theorem dC_init_89 : decode cC_init 89 = .ok (.aload_n 0, 1) := by decide +kernel
theorem dC_init_90 : decode cC_init 90 = .ok (.bipush 40, 2) := by decide +kernel
theorem dC_init_92 : decode cC_init 92 = .ok (.newarray .int, 2) := by decide +kernel
theorem dC_init_94 : decode cC_init 94 = .ok (.putfield 47, 3) := by decide +kernel
theorem dC_init_97 : decode cC_init 97 = .ok (.aload_n 0, 1) := by decide +kernel
theorem dC_init_98 : decode cC_init 98 = .ok (.new 50, 3) := by decide +kernel
theorem dC_init_101 : decode cC_init 101 = .ok (.dup, 1) := by decide +kernel
theorem dC_init_102 : decode cC_init 102 = .ok (.invokespecial 52, 3) := by decide +kernel
theorem dC_init_105 : decode cC_init 105 = .ok (.putfield 53, 3) := by decide +kernel
theorem dC_init_108 : decode cC_init 108 = .ok (.aload_n 0, 1) := by decide +kernel
theorem dC_init_109 : decode cC_init 109 = .ok (.iconst 0, 1) := by decide +kernel
theorem dC_init_110 : decode cC_init 110 = .ok (.putfield 57, 3) := by decide +kernel
theorem dC_init_113 : decode cC_init 113 = .ok (.return_, 1) := by decide +kernel
theorem dD_init_0 : decode cD_init 0 = .ok (.aload_n 0, 1) := by decide +kernel
theorem dD_init_1 : decode cD_init 1 = .ok (.invokespecial 3, 3) := by decide +kernel
theorem dD_init_4 : decode cD_init 4 = .ok (.aload_n 0, 1) := by decide +kernel
theorem dD_init_5 : decode cD_init 5 = .ok (.iconst 0, 1) := by decide +kernel
theorem dD_init_6 : decode cD_init 6 = .ok (.putfield 9, 3) := by decide +kernel
theorem dD_init_9 : decode cD_init 9 = .ok (.aload_n 0, 1) := by decide +kernel
theorem dD_init_10 : decode cD_init 10 = .ok (.bipush 14, 2) := by decide +kernel
theorem dD_init_12 : decode cD_init 12 = .ok (.newarray .long, 2) := by decide +kernel
theorem dD_init_14 : decode cD_init 14 = .ok (.putfield 15, 3) := by decide +kernel
theorem dD_init_17 : decode cD_init 17 = .ok (.aload_n 0, 1) := by decide +kernel
theorem dD_init_18 : decode cD_init 18 = .ok (.bipush 14, 2) := by decide +kernel
theorem dD_init_20 : decode cD_init 20 = .ok (.newarray .long, 2) := by decide +kernel
theorem dD_init_22 : decode cD_init 22 = .ok (.putfield 19, 3) := by decide +kernel
theorem dD_init_25 : decode cD_init 25 = .ok (.aload_n 0, 1) := by decide +kernel
theorem dD_init_26 : decode cD_init 26 = .ok (.bipush 15, 2) := by decide +kernel
theorem dD_init_28 : decode cD_init 28 = .ok (.newarray .long, 2) := by decide +kernel
theorem dD_init_30 : decode cD_init 30 = .ok (.putfield 22, 3) := by decide +kernel
theorem dD_init_33 : decode cD_init 33 = .ok (.return_, 1) := by decide +kernel
theorem dC_edition_0 : decode cC_edition 0 = .ok (.aload_n 0, 1) := by decide +kernel
theorem dC_edition_1 : decode cC_edition 1 = .ok (.getfield 9, 3) := by decide +kernel
theorem dC_edition_4 : decode cC_edition 4 = .ok (.bipush 8, 2) := by decide +kernel
theorem dC_edition_6 : decode cC_edition 6 = .ok (.if_icmp .lt 5, 3) := by decide +kernel
theorem dC_edition_9 : decode cC_edition 9 = .ok (.iconst (-1), 1) := by decide +kernel
theorem dC_edition_10 : decode cC_edition 10 = .ok (.ireturn, 1) := by decide +kernel
theorem dC_edition_11 : decode cC_edition 11 = .ok (.aload_n 0, 1) := by decide +kernel
theorem dC_edition_12 : decode cC_edition 12 = .ok (.getfield 9, 3) := by decide +kernel
theorem dC_edition_15 : decode cC_edition 15 = .ok (.istore_n 1, 1) := by decide +kernel
theorem dC_edition_16 : decode cC_edition 16 = .ok (.aload_n 0, 1) := by decide +kernel
theorem dC_edition_17 : decode cC_edition 17 = .ok (.iload_n 1, 1) := by decide +kernel
theorem dC_edition_18 : decode cC_edition 18 = .ok (.iconst 1, 1) := by decide +kernel
theorem dC_edition_19 : decode cC_edition 19 = .ok (.iadd, 1) := by decide +kernel
theorem dC_edition_20 : decode cC_edition 20 = .ok (.putfield 9, 3) := by decide +kernel
theorem dC_edition_23 : decode cC_edition 23 = .ok (.iload_n 1, 1) := by decide +kernel
theorem dC_edition_24 : decode cC_edition 24 = .ok (.ireturn, 1) := by decide +kernel
theorem dC_line_0 : decode cC_line 0 = .ok (.aload_n 0, 1) := by decide +kernel
theorem dC_line_1 : decode cC_line 1 = .ok (.iload_n 1, 1) := by decide +kernel
theorem dC_line_2 : decode cC_line 2 = .ok (.invokevirtual 60, 3) := by decide +kernel
theorem dC_line_5 : decode cC_line 5 = .ok (.ifCond .eq 19, 3) := by decide +kernel
theorem dC_line_8 : decode cC_line 8 = .ok (.iload_n 3, 1) := by decide +kernel
theorem dC_line_9 : decode cC_line 9 = .ok (.invokestatic 64, 3) := by decide +kernel
theorem dC_line_12 : decode cC_line 12 = .ok (.ifCond .eq 12, 3) := by decide +kernel
theorem dC_line_15 : decode cC_line 15 = .ok (.aload_n 0, 1) := by decide +kernel
theorem dC_line_16 : decode cC_line 16 = .ok (.getfield 17, 3) := by decide +kernel
theorem dC_line_19 : decode cC_line 19 = .ok (.iload_n 1, 1) := by decide +kernel
theorem dC_line_20 : decode cC_line 20 = .ok (.baload, 1) := by decide +kernel
theorem dC_line_21 : decode cC_line 21 = .ok (.ifCond .eq 5, 3) := by decide +kernel
theorem dC_line_24 : decode cC_line 24 = .ok (.iconst (-1), 1) := by decide +kernel
theorem dC_line_25 : decode cC_line 25 = .ok (.ireturn, 1) := by decide +kernel
theorem dC_line_26 : decode cC_line 26 = .ok (.aload_n 0, 1) := by decide +kernel
theorem dC_line_27 : decode cC_line 27 = .ok (.getfield 13, 3) := by decide +kernel
theorem dC_line_30 : decode cC_line 30 = .ok (.iload_n 1, 1) := by decide +kernel
theorem dC_line_31 : decode cC_line 31 = .ok (.iaload, 1) := by decide +kernel
theorem dC_line_32 : decode cC_line 32 = .ok (.istore 5, 2) := by decide +kernel
theorem dC_line_34 : decode cC_line 34 = .ok (.iload 5, 2) := by decide +kernel
theorem dC_line_36 : decode cC_line 36 = .ok (.bipush 40, 2) := by decide +kernel
theorem dC_line_38 : decode cC_line 38 = .ok (.if_icmp .lt 5, 3) := by decide +kernel
theorem dC_line_41 : decode cC_line 41 = .ok (.iconst (-1), 1) := by decide +kernel
theorem dC_line_42 : decode cC_line 42 = .ok (.ireturn, 1) := by decide +kernel
theorem dC_line_43 : decode cC_line 43 = .ok (.aload_n 0, 1) := by decide +kernel
theorem dC_line_44 : decode cC_line 44 = .ok (.getfield 23, 3) := by decide +kernel
theorem dC_line_47 : decode cC_line 47 = .ok (.iload_n 1, 1) := by decide +kernel
theorem dC_line_48 : decode cC_line 48 = .ok (.aaload, 1) := by decide +kernel
theorem dC_line_49 : decode cC_line 49 = .ok (.iload 5, 2) := by decide +kernel
theorem dC_line_51 : decode cC_line 51 = .ok (.iload_n 2, 1) := by decide +kernel
theorem dC_line_52 : decode cC_line 52 = .ok (.iastore, 1) := by decide +kernel
theorem dC_line_53 : decode cC_line 53 = .ok (.iload 4, 2) := by decide +kernel
theorem dC_line_55 : decode cC_line 55 = .ok (.ifCond .ne 19, 3) := by decide +kernel
theorem dC_line_58 : decode cC_line 58 = .ok (.aload_n 0, 1) := by decide +kernel
theorem dC_line_59 : decode cC_line 59 = .ok (.getfield 28, 3) := by decide +kernel
theorem dC_line_62 : decode cC_line 62 = .ok (.iload_n 1, 1) := by decide +kernel
theorem dC_line_63 : decode cC_line 63 = .ok (.aaload, 1) := by decide +kernel
theorem dC_line_64 : decode cC_line 64 = .ok (.iload_n 3, 1) := by decide +kernel
theorem dC_line_65 : decode cC_line 65 = .ok (.dup2, 1) := by decide +kernel
theorem dC_line_66 : decode cC_line 66 = .ok (.laload, 1) := by decide +kernel
theorem dC_line_67 : decode cC_line 67 = .ok (.iload 5, 2) := by decide +kernel
theorem dC_line_69 : decode cC_line 69 = .ok (.invokestatic 67, 3) := by decide +kernel
theorem dC_line_72 : decode cC_line 72 = .ok (.lor, 1) := by decide +kernel
theorem dC_line_73 : decode cC_line 73 = .ok (.lastore, 1) := by decide +kernel
theorem dC_line_74 : decode cC_line 74 = .ok (.aload_n 0, 1) := by decide +kernel
theorem dC_line_75 : decode cC_line 75 = .ok (.getfield 13, 3) := by decide +kernel
theorem dC_line_78 : decode cC_line 78 = .ok (.iload_n 1, 1) := by decide +kernel
theorem dC_line_79 : decode cC_line 79 = .ok (.iload 5, 2) := by decide +kernel
theorem dC_line_81 : decode cC_line 81 = .ok (.iconst 1, 1) := by decide +kernel
theorem dC_line_82 : decode cC_line 82 = .ok (.iadd, 1) := by decide +kernel
theorem dC_line_83 : decode cC_line 83 = .ok (.iastore, 1) := by decide +kernel
theorem dC_line_84 : decode cC_line 84 = .ok (.iload 5, 2) := by decide +kernel
theorem dC_line_86 : decode cC_line 86 = .ok (.ireturn, 1) := by decide +kernel
theorem dC_isEdition_0 : decode cC_isEdition 0 = .ok (.iload_n 1, 1) := by decide +kernel
theorem dC_isEdition_1 : decode cC_isEdition 1 = .ok (.ifCond .lt 15, 3) := by decide +kernel
theorem dC_isEdition_4 : decode cC_isEdition 4 = .ok (.iload_n 1, 1) := by decide +kernel
theorem dC_isEdition_5 : decode cC_isEdition 5 = .ok (.aload_n 0, 1) := by decide +kernel
theorem dC_isEdition_6 : decode cC_isEdition 6 = .ok (.getfield 9, 3) := by decide +kernel
theorem dC_isEdition_9 : decode cC_isEdition 9 = .ok (.if_icmp .ge 7, 3) := by decide +kernel
theorem dC_isEdition_12 : decode cC_isEdition 12 = .ok (.iconst 1, 1) := by decide +kernel
theorem dC_isEdition_13 : decode cC_isEdition 13 = .ok (.goto 4, 3) := by decide +kernel
theorem dC_isEdition_16 : decode cC_isEdition 16 = .ok (.iconst 0, 1) := by decide +kernel
theorem dC_isEdition_17 : decode cC_isEdition 17 = .ok (.ireturn, 1) := by decide +kernel
theorem dC_isOwner_0 : decode cC_isOwner 0 = .ok (.iload_n 0, 1) := by decide +kernel
theorem dC_isOwner_1 : decode cC_isOwner 1 = .ok (.ifCond .lt 12, 3) := by decide +kernel
theorem dC_isOwner_4 : decode cC_isOwner 4 = .ok (.iload_n 0, 1) := by decide +kernel
theorem dC_isOwner_5 : decode cC_isOwner 5 = .ok (.iconst 4, 1) := by decide +kernel
theorem dC_isOwner_6 : decode cC_isOwner 6 = .ok (.if_icmp .ge 7, 3) := by decide +kernel
theorem dC_isOwner_9 : decode cC_isOwner 9 = .ok (.iconst 1, 1) := by decide +kernel
theorem dC_isOwner_10 : decode cC_isOwner 10 = .ok (.goto 4, 3) := by decide +kernel
theorem dC_isOwner_13 : decode cC_isOwner 13 = .ok (.iconst 0, 1) := by decide +kernel
theorem dC_isOwner_14 : decode cC_isOwner 14 = .ok (.ireturn, 1) := by decide +kernel
theorem dC_bitOf_0 : decode cC_bitOf 0 = .ok (.lconst 1, 1) := by decide +kernel
theorem dC_bitOf_1 : decode cC_bitOf 1 = .ok (.iload_n 0, 1) := by decide +kernel
theorem dC_bitOf_2 : decode cC_bitOf 2 = .ok (.lshl, 1) := by decide +kernel
theorem dC_bitOf_3 : decode cC_bitOf 3 = .ok (.lreturn, 1) := by decide +kernel
theorem dC_lines_0 : decode cC_lines 0 = .ok (.aload_n 0, 1) := by decide +kernel
theorem dC_lines_1 : decode cC_lines 1 = .ok (.iload_n 1, 1) := by decide +kernel
theorem dC_lines_2 : decode cC_lines 2 = .ok (.invokevirtual 60, 3) := by decide +kernel
theorem dC_lines_5 : decode cC_lines 5 = .ok (.ifCond .eq 12, 3) := by decide +kernel
theorem dC_lines_8 : decode cC_lines 8 = .ok (.aload_n 0, 1) := by decide +kernel
theorem dC_lines_9 : decode cC_lines 9 = .ok (.getfield 13, 3) := by decide +kernel
theorem dC_lines_12 : decode cC_lines 12 = .ok (.iload_n 1, 1) := by decide +kernel
theorem dC_lines_13 : decode cC_lines 13 = .ok (.iaload, 1) := by decide +kernel
theorem dC_lines_14 : decode cC_lines 14 = .ok (.goto 4, 3) := by decide +kernel
theorem dC_lines_17 : decode cC_lines 17 = .ok (.iconst (-1), 1) := by decide +kernel
theorem dC_lines_18 : decode cC_lines 18 = .ok (.ireturn, 1) := by decide +kernel
theorem dC_run_0 : decode cC_run 0 = .ok (.aload_n 0, 1) := by decide +kernel
theorem dC_run_1 : decode cC_run 1 = .ok (.iload_n 1, 1) := by decide +kernel
theorem dC_run_2 : decode cC_run 2 = .ok (.invokevirtual 60, 3) := by decide +kernel
theorem dC_run_5 : decode cC_run 5 = .ok (.ifCond .eq 13, 3) := by decide +kernel
theorem dC_run_8 : decode cC_run 8 = .ok (.iload_n 2, 1) := by decide +kernel
theorem dC_run_9 : decode cC_run 9 = .ok (.ifCond .lt 9, 3) := by decide +kernel
theorem dC_run_12 : decode cC_run 12 = .ok (.iload_n 2, 1) := by decide +kernel
theorem dC_run_13 : decode cC_run 13 = .ok (.ldc 71, 2) := by decide +kernel
theorem dC_run_15 : decode cC_run 15 = .ok (.if_icmp .le 5, 3) := by decide +kernel
theorem dC_run_18 : decode cC_run 18 = .ok (.iconst (-1), 1) := by decide +kernel
theorem dC_run_19 : decode cC_run 19 = .ok (.ireturn, 1) := by decide +kernel
theorem dC_run_20 : decode cC_run 20 = .ok (.aload_n 0, 1) := by decide +kernel
theorem dC_run_21 : decode cC_run 21 = .ok (.iload_n 1, 1) := by decide +kernel
theorem dC_run_22 : decode cC_run 22 = .ok (.iload_n 2, 1) := by decide +kernel
theorem dC_run_23 : decode cC_run 23 = .ok (.lconst 0, 1) := by decide +kernel
theorem dC_run_24 : decode cC_run 24 = .ok (.invokevirtual 72, 3) := by decide +kernel
theorem dC_run_27 : decode cC_run 27 = .ok (.ireturn, 1) := by decide +kernel
theorem dC_addRun_0 : decode cC_addRun 0 = .ok (.aload_n 0, 1) := by decide +kernel
theorem dC_addRun_1 : decode cC_addRun 1 = .ok (.getfield 31, 3) := by decide +kernel
theorem dC_addRun_4 : decode cC_addRun 4 = .ok (.bipush 14, 2) := by decide +kernel
theorem dC_addRun_6 : decode cC_addRun 6 = .ok (.if_icmp .lt 5, 3) := by decide +kernel
theorem dC_addRun_9 : decode cC_addRun 9 = .ok (.iconst (-1), 1) := by decide +kernel
theorem dC_addRun_10 : decode cC_addRun 10 = .ok (.ireturn, 1) := by decide +kernel
theorem dC_addRun_11 : decode cC_addRun 11 = .ok (.aload_n 0, 1) := by decide +kernel
theorem dC_addRun_12 : decode cC_addRun 12 = .ok (.getfield 31, 3) := by decide +kernel
theorem dC_addRun_15 : decode cC_addRun 15 = .ok (.istore 5, 2) := by decide +kernel
theorem dC_addRun_17 : decode cC_addRun 17 = .ok (.aload_n 0, 1) := by decide +kernel
theorem dC_addRun_18 : decode cC_addRun 18 = .ok (.getfield 34, 3) := by decide +kernel
theorem dC_addRun_21 : decode cC_addRun 21 = .ok (.iload 5, 2) := by decide +kernel
theorem dC_addRun_23 : decode cC_addRun 23 = .ok (.iload_n 1, 1) := by decide +kernel
theorem dC_addRun_24 : decode cC_addRun 24 = .ok (.iastore, 1) := by decide +kernel
theorem dC_addRun_25 : decode cC_addRun 25 = .ok (.aload_n 0, 1) := by decide +kernel
theorem dC_addRun_26 : decode cC_addRun 26 = .ok (.getfield 37, 3) := by decide +kernel
theorem dC_addRun_29 : decode cC_addRun 29 = .ok (.iload 5, 2) := by decide +kernel
theorem dC_addRun_31 : decode cC_addRun 31 = .ok (.iload_n 2, 1) := by decide +kernel
theorem dC_addRun_32 : decode cC_addRun 32 = .ok (.iastore, 1) := by decide +kernel
theorem dC_addRun_33 : decode cC_addRun 33 = .ok (.aload_n 0, 1) := by decide +kernel
theorem dC_addRun_34 : decode cC_addRun 34 = .ok (.getfield 40, 3) := by decide +kernel
theorem dC_addRun_37 : decode cC_addRun 37 = .ok (.iload 5, 2) := by decide +kernel
theorem dC_addRun_39 : decode cC_addRun 39 = .ok (.lload_n 3, 1) := by decide +kernel
theorem dC_addRun_40 : decode cC_addRun 40 = .ok (.lastore, 1) := by decide +kernel
theorem dC_addRun_41 : decode cC_addRun 41 = .ok (.aload_n 0, 1) := by decide +kernel
theorem dC_addRun_42 : decode cC_addRun 42 = .ok (.iload 5, 2) := by decide +kernel
theorem dC_addRun_44 : decode cC_addRun 44 = .ok (.iconst 1, 1) := by decide +kernel
theorem dC_addRun_45 : decode cC_addRun 45 = .ok (.iadd, 1) := by decide +kernel
theorem dC_addRun_46 : decode cC_addRun 46 = .ok (.putfield 31, 3) := by decide +kernel
theorem dC_addRun_49 : decode cC_addRun 49 = .ok (.aload_n 0, 1) := by decide +kernel
theorem dC_addRun_50 : decode cC_addRun 50 = .ok (.getfield 17, 3) := by decide +kernel
theorem dC_addRun_53 : decode cC_addRun 53 = .ok (.iload_n 1, 1) := by decide +kernel
theorem dC_addRun_54 : decode cC_addRun 54 = .ok (.iconst 1, 1) := by decide +kernel
theorem dC_addRun_55 : decode cC_addRun 55 = .ok (.bastore, 1) := by decide +kernel
theorem dC_addRun_56 : decode cC_addRun 56 = .ok (.iload 5, 2) := by decide +kernel
theorem dC_addRun_58 : decode cC_addRun 58 = .ok (.ireturn, 1) := by decide +kernel
theorem dC_hit_0 : decode cC_hit 0 = .ok (.aload_n 0, 1) := by decide +kernel
theorem dC_hit_1 : decode cC_hit 1 = .ok (.iload_n 1, 1) := by decide +kernel
theorem dC_hit_2 : decode cC_hit 2 = .ok (.invokevirtual 76, 3) := by decide +kernel
theorem dC_hit_5 : decode cC_hit 5 = .ok (.ifCond .eq 26, 3) := by decide +kernel
theorem dC_hit_8 : decode cC_hit 8 = .ok (.aload_n 0, 1) := by decide +kernel
theorem dC_hit_9 : decode cC_hit 9 = .ok (.aload_n 0, 1) := by decide +kernel
theorem dC_hit_10 : decode cC_hit 10 = .ok (.getfield 34, 3) := by decide +kernel
theorem dC_hit_13 : decode cC_hit 13 = .ok (.iload_n 1, 1) := by decide +kernel
theorem dC_hit_14 : decode cC_hit 14 = .ok (.iaload, 1) := by decide +kernel
theorem dC_hit_15 : decode cC_hit 15 = .ok (.iload_n 2, 1) := by decide +kernel
theorem dC_hit_16 : decode cC_hit 16 = .ok (.invokevirtual 79, 3) := by decide +kernel
theorem dC_hit_19 : decode cC_hit 19 = .ok (.ifCond .eq 12, 3) := by decide +kernel
theorem dC_hit_22 : decode cC_hit 22 = .ok (.aload_n 0, 1) := by decide +kernel
theorem dC_hit_23 : decode cC_hit 23 = .ok (.iload_n 1, 1) := by decide +kernel
theorem dC_hit_24 : decode cC_hit 24 = .ok (.iload_n 2, 1) := by decide +kernel
theorem dC_hit_25 : decode cC_hit 25 = .ok (.invokevirtual 83, 3) := by decide +kernel
theorem dC_hit_28 : decode cC_hit 28 = .ok (.ifCond .eq 5, 3) := by decide +kernel
theorem dC_hit_31 : decode cC_hit 31 = .ok (.iconst 0, 1) := by decide +kernel
theorem dC_hit_32 : decode cC_hit 32 = .ok (.ireturn, 1) := by decide +kernel
theorem dC_hit_33 : decode cC_hit 33 = .ok (.aload_n 0, 1) := by decide +kernel
theorem dC_hit_34 : decode cC_hit 34 = .ok (.getfield 40, 3) := by decide +kernel
theorem dC_hit_37 : decode cC_hit 37 = .ok (.iload_n 1, 1) := by decide +kernel
theorem dC_hit_38 : decode cC_hit 38 = .ok (.dup2, 1) := by decide +kernel
theorem dC_hit_39 : decode cC_hit 39 = .ok (.laload, 1) := by decide +kernel
theorem dC_hit_40 : decode cC_hit 40 = .ok (.iload_n 2, 1) := by decide +kernel
theorem dC_hit_41 : decode cC_hit 41 = .ok (.invokestatic 67, 3) := by decide +kernel
theorem dC_hit_44 : decode cC_hit 44 = .ok (.lor, 1) := by decide +kernel
theorem dC_hit_45 : decode cC_hit 45 = .ok (.lastore, 1) := by decide +kernel
theorem dC_hit_46 : decode cC_hit 46 = .ok (.iconst 1, 1) := by decide +kernel
theorem dC_hit_47 : decode cC_hit 47 = .ok (.ireturn, 1) := by decide +kernel
theorem dC_isRun_0 : decode cC_isRun 0 = .ok (.iload_n 1, 1) := by decide +kernel
theorem dC_isRun_1 : decode cC_isRun 1 = .ok (.ifCond .lt 15, 3) := by decide +kernel
theorem dC_isRun_4 : decode cC_isRun 4 = .ok (.iload_n 1, 1) := by decide +kernel
theorem dC_isRun_5 : decode cC_isRun 5 = .ok (.aload_n 0, 1) := by decide +kernel
theorem dC_isRun_6 : decode cC_isRun 6 = .ok (.getfield 31, 3) := by decide +kernel
theorem dC_isRun_9 : decode cC_isRun 9 = .ok (.if_icmp .ge 7, 3) := by decide +kernel
theorem dC_isRun_12 : decode cC_isRun 12 = .ok (.iconst 1, 1) := by decide +kernel
theorem dC_isRun_13 : decode cC_isRun 13 = .ok (.goto 4, 3) := by decide +kernel
theorem dC_isRun_16 : decode cC_isRun 16 = .ok (.iconst 0, 1) := by decide +kernel
theorem dC_isRun_17 : decode cC_isRun 17 = .ok (.ireturn, 1) := by decide +kernel
theorem dC_isLine_0 : decode cC_isLine 0 = .ok (.iload_n 2, 1) := by decide +kernel
theorem dC_isLine_1 : decode cC_isLine 1 = .ok (.ifCond .lt 17, 3) := by decide +kernel
theorem dC_isLine_4 : decode cC_isLine 4 = .ok (.iload_n 2, 1) := by decide +kernel
theorem dC_isLine_5 : decode cC_isLine 5 = .ok (.aload_n 0, 1) := by decide +kernel
theorem dC_isLine_6 : decode cC_isLine 6 = .ok (.getfield 13, 3) := by decide +kernel
theorem dC_isLine_9 : decode cC_isLine 9 = .ok (.iload_n 1, 1) := by decide +kernel
theorem dC_isLine_10 : decode cC_isLine 10 = .ok (.iaload, 1) := by decide +kernel
theorem dC_isLine_11 : decode cC_isLine 11 = .ok (.if_icmp .ge 7, 3) := by decide +kernel
theorem dC_isLine_14 : decode cC_isLine 14 = .ok (.iconst 1, 1) := by decide +kernel
theorem dC_isLine_15 : decode cC_isLine 15 = .ok (.goto 4, 3) := by decide +kernel
theorem dC_isLine_18 : decode cC_isLine 18 = .ok (.iconst 0, 1) := by decide +kernel
theorem dC_isLine_19 : decode cC_isLine 19 = .ok (.ireturn, 1) := by decide +kernel
theorem dC_hitsLine_0 : decode cC_hitsLine 0 = .ok (.aload_n 0, 1) := by decide +kernel
theorem dC_hitsLine_1 : decode cC_hitsLine 1 = .ok (.getfield 40, 3) := by decide +kernel
theorem dC_hitsLine_4 : decode cC_hitsLine 4 = .ok (.iload_n 1, 1) := by decide +kernel
theorem dC_hitsLine_5 : decode cC_hitsLine 5 = .ok (.laload, 1) := by decide +kernel
theorem dC_hitsLine_6 : decode cC_hitsLine 6 = .ok (.iload_n 2, 1) := by decide +kernel
theorem dC_hitsLine_7 : decode cC_hitsLine 7 = .ok (.invokestatic 67, 3) := by decide +kernel
theorem dC_hitsLine_10 : decode cC_hitsLine 10 = .ok (.land, 1) := by decide +kernel
theorem dC_hitsLine_11 : decode cC_hitsLine 11 = .ok (.lconst 0, 1) := by decide +kernel
theorem dC_hitsLine_12 : decode cC_hitsLine 12 = .ok (.lcmp, 1) := by decide +kernel
theorem dC_hitsLine_13 : decode cC_hitsLine 13 = .ok (.ifCond .eq 7, 3) := by decide +kernel
theorem dC_hitsLine_16 : decode cC_hitsLine 16 = .ok (.iconst 1, 1) := by decide +kernel
theorem dC_hitsLine_17 : decode cC_hitsLine 17 = .ok (.goto 4, 3) := by decide +kernel
theorem dC_hitsLine_20 : decode cC_hitsLine 20 = .ok (.iconst 0, 1) := by decide +kernel
theorem dC_hitsLine_21 : decode cC_hitsLine 21 = .ok (.ireturn, 1) := by decide +kernel
theorem dC_covered_0 : decode cC_covered 0 = .ok (.aload_n 0, 1) := by decide +kernel
theorem dC_covered_1 : decode cC_covered 1 = .ok (.iload_n 1, 1) := by decide +kernel
theorem dC_covered_2 : decode cC_covered 2 = .ok (.invokevirtual 76, 3) := by decide +kernel
theorem dC_covered_5 : decode cC_covered 5 = .ok (.ifCond .eq 30, 3) := by decide +kernel
theorem dC_covered_8 : decode cC_covered 8 = .ok (.aload_n 0, 1) := by decide +kernel
theorem dC_covered_9 : decode cC_covered 9 = .ok (.aload_n 0, 1) := by decide +kernel
theorem dC_covered_10 : decode cC_covered 10 = .ok (.getfield 34, 3) := by decide +kernel
theorem dC_covered_13 : decode cC_covered 13 = .ok (.iload_n 1, 1) := by decide +kernel
theorem dC_covered_14 : decode cC_covered 14 = .ok (.iaload, 1) := by decide +kernel
theorem dC_covered_15 : decode cC_covered 15 = .ok (.iload_n 2, 1) := by decide +kernel
theorem dC_covered_16 : decode cC_covered 16 = .ok (.invokevirtual 79, 3) := by decide +kernel
theorem dC_covered_19 : decode cC_covered 19 = .ok (.ifCond .eq 16, 3) := by decide +kernel
theorem dC_covered_22 : decode cC_covered 22 = .ok (.aload_n 0, 1) := by decide +kernel
theorem dC_covered_23 : decode cC_covered 23 = .ok (.iload_n 1, 1) := by decide +kernel
theorem dC_covered_24 : decode cC_covered 24 = .ok (.iload_n 2, 1) := by decide +kernel
theorem dC_covered_25 : decode cC_covered 25 = .ok (.invokevirtual 83, 3) := by decide +kernel
theorem dC_covered_28 : decode cC_covered 28 = .ok (.ifCond .eq 7, 3) := by decide +kernel
theorem dC_covered_31 : decode cC_covered 31 = .ok (.iconst 1, 1) := by decide +kernel
theorem dC_covered_32 : decode cC_covered 32 = .ok (.goto 4, 3) := by decide +kernel
theorem dC_covered_35 : decode cC_covered 35 = .ok (.iconst 0, 1) := by decide +kernel
theorem dC_covered_36 : decode cC_covered 36 = .ok (.ireturn, 1) := by decide +kernel
theorem dC_map_0 : decode cC_map 0 = .ok (.aload_n 0, 1) := by decide +kernel
theorem dC_map_1 : decode cC_map 1 = .ok (.iload_n 1, 1) := by decide +kernel
theorem dC_map_2 : decode cC_map 2 = .ok (.invokevirtual 76, 3) := by decide +kernel
theorem dC_map_5 : decode cC_map 5 = .ok (.ifCond .eq 20, 3) := by decide +kernel
theorem dC_map_8 : decode cC_map 8 = .ok (.aload_n 0, 1) := by decide +kernel
theorem dC_map_9 : decode cC_map 9 = .ok (.iload_n 2, 1) := by decide +kernel
theorem dC_map_10 : decode cC_map 10 = .ok (.invokevirtual 60, 3) := by decide +kernel
theorem dC_map_13 : decode cC_map 13 = .ok (.ifCond .eq 12, 3) := by decide +kernel
theorem dC_map_16 : decode cC_map 16 = .ok (.aload_n 0, 1) := by decide +kernel
theorem dC_map_17 : decode cC_map 17 = .ok (.getfield 31, 3) := by decide +kernel
theorem dC_map_20 : decode cC_map 20 = .ok (.bipush 14, 2) := by decide +kernel
theorem dC_map_22 : decode cC_map 22 = .ok (.if_icmp .lt 5, 3) := by decide +kernel
theorem dC_map_25 : decode cC_map 25 = .ok (.iconst (-1), 1) := by decide +kernel
theorem dC_map_26 : decode cC_map 26 = .ok (.ireturn, 1) := by decide +kernel
theorem dC_map_27 : decode cC_map 27 = .ok (.aload_n 0, 1) := by decide +kernel
theorem dC_map_28 : decode cC_map 28 = .ok (.aload_n 0, 1) := by decide +kernel
theorem dC_map_29 : decode cC_map 29 = .ok (.getfield 34, 3) := by decide +kernel
theorem dC_map_32 : decode cC_map 32 = .ok (.iload_n 1, 1) := by decide +kernel
theorem dC_map_33 : decode cC_map 33 = .ok (.iaload, 1) := by decide +kernel
theorem dC_map_34 : decode cC_map 34 = .ok (.iload_n 2, 1) := by decide +kernel
theorem dC_map_35 : decode cC_map 35 = .ok (.invokevirtual 86, 3) := by decide +kernel
theorem dC_map_38 : decode cC_map 38 = .ok (.aload_n 0, 1) := by decide +kernel
theorem dC_map_39 : decode cC_map 39 = .ok (.iload_n 2, 1) := by decide +kernel
theorem dC_map_40 : decode cC_map 40 = .ok (.aload_n 0, 1) := by decide +kernel
theorem dC_map_41 : decode cC_map 41 = .ok (.getfield 37, 3) := by decide +kernel
theorem dC_map_44 : decode cC_map 44 = .ok (.iload_n 1, 1) := by decide +kernel
theorem dC_map_45 : decode cC_map 45 = .ok (.iaload, 1) := by decide +kernel
theorem dC_map_46 : decode cC_map 46 = .ok (.aload_n 0, 1) := by decide +kernel
theorem dC_map_47 : decode cC_map 47 = .ok (.aload_n 0, 1) := by decide +kernel
theorem dC_map_48 : decode cC_map 48 = .ok (.getfield 34, 3) := by decide +kernel
theorem dC_map_51 : decode cC_map 51 = .ok (.iload_n 1, 1) := by decide +kernel
theorem dC_map_52 : decode cC_map 52 = .ok (.iaload, 1) := by decide +kernel
theorem dC_map_53 : decode cC_map 53 = .ok (.aload_n 0, 1) := by decide +kernel
theorem dC_map_54 : decode cC_map 54 = .ok (.getfield 40, 3) := by decide +kernel
theorem dC_map_57 : decode cC_map 57 = .ok (.iload_n 1, 1) := by decide +kernel
theorem dC_map_58 : decode cC_map 58 = .ok (.laload, 1) := by decide +kernel
theorem dC_map_59 : decode cC_map 59 = .ok (.invokevirtual 90, 3) := by decide +kernel
theorem dC_map_62 : decode cC_map 62 = .ok (.invokevirtual 72, 3) := by decide +kernel
theorem dC_map_65 : decode cC_map 65 = .ok (.ireturn, 1) := by decide +kernel
theorem dC_compare_0 : decode cC_compare 0 = .ok (.aload_n 0, 1) := by decide +kernel
theorem dC_compare_1 : decode cC_compare 1 = .ok (.getfield 17, 3) := by decide +kernel
theorem dC_compare_4 : decode cC_compare 4 = .ok (.iload_n 1, 1) := by decide +kernel
theorem dC_compare_5 : decode cC_compare 5 = .ok (.iconst 1, 1) := by decide +kernel
theorem dC_compare_6 : decode cC_compare 6 = .ok (.bastore, 1) := by decide +kernel
theorem dC_compare_7 : decode cC_compare 7 = .ok (.aload_n 0, 1) := by decide +kernel
theorem dC_compare_8 : decode cC_compare 8 = .ok (.getfield 17, 3) := by decide +kernel
theorem dC_compare_11 : decode cC_compare 11 = .ok (.iload_n 2, 1) := by decide +kernel
theorem dC_compare_12 : decode cC_compare 12 = .ok (.iconst 1, 1) := by decide +kernel
theorem dC_compare_13 : decode cC_compare 13 = .ok (.bastore, 1) := by decide +kernel
theorem dC_compare_14 : decode cC_compare 14 = .ok (.aload_n 0, 1) := by decide +kernel
theorem dC_compare_15 : decode cC_compare 15 = .ok (.iload_n 1, 1) := by decide +kernel
theorem dC_compare_16 : decode cC_compare 16 = .ok (.iload_n 2, 1) := by decide +kernel
theorem dC_compare_17 : decode cC_compare 17 = .ok (.invokevirtual 135, 3) := by decide +kernel
theorem dC_compare_20 : decode cC_compare 20 = .ok (.aload_n 0, 1) := by decide +kernel
theorem dC_compare_21 : decode cC_compare 21 = .ok (.iload_n 1, 1) := by decide +kernel
theorem dC_compare_22 : decode cC_compare 22 = .ok (.iload_n 2, 1) := by decide +kernel
theorem dC_compare_23 : decode cC_compare 23 = .ok (.invokevirtual 138, 3) := by decide +kernel
theorem dC_compare_26 : decode cC_compare 26 = .ok (.return_, 1) := by decide +kernel
theorem dC_countPairs_0 : decode cC_countPairs 0 = .ok (.aload_n 0, 1) := by decide +kernel
theorem dC_countPairs_1 : decode cC_countPairs 1 = .ok (.getfield 13, 3) := by decide +kernel
theorem dC_countPairs_4 : decode cC_countPairs 4 = .ok (.iload_n 1, 1) := by decide +kernel
theorem dC_countPairs_5 : decode cC_countPairs 5 = .ok (.iaload, 1) := by decide +kernel
theorem dC_countPairs_6 : decode cC_countPairs 6 = .ok (.istore_n 3, 1) := by decide +kernel
theorem dC_countPairs_7 : decode cC_countPairs 7 = .ok (.aload_n 0, 1) := by decide +kernel
theorem dC_countPairs_8 : decode cC_countPairs 8 = .ok (.getfield 13, 3) := by decide +kernel
theorem dC_countPairs_11 : decode cC_countPairs 11 = .ok (.iload_n 2, 1) := by decide +kernel
theorem dC_countPairs_12 : decode cC_countPairs 12 = .ok (.iaload, 1) := by decide +kernel
theorem dC_countPairs_13 : decode cC_countPairs 13 = .ok (.istore 4, 2) := by decide +kernel
theorem dC_countPairs_15 : decode cC_countPairs 15 = .ok (.iconst 0, 1) := by decide +kernel
theorem dC_countPairs_16 : decode cC_countPairs 16 = .ok (.istore 5, 2) := by decide +kernel
theorem dC_countPairs_18 : decode cC_countPairs 18 = .ok (.iload 5, 2) := by decide +kernel
theorem dC_countPairs_20 : decode cC_countPairs 20 = .ok (.iload 4, 2) := by decide +kernel
theorem dC_countPairs_22 : decode cC_countPairs 22 = .ok (.if_icmp .gt 19, 3) := by decide +kernel
theorem dC_countPairs_25 : decode cC_countPairs 25 = .ok (.aload_n 0, 1) := by decide +kernel
theorem dC_countPairs_26 : decode cC_countPairs 26 = .ok (.getfield 44, 3) := by decide +kernel
theorem dC_countPairs_29 : decode cC_countPairs 29 = .ok (.iload_n 3, 1) := by decide +kernel
theorem dC_countPairs_30 : decode cC_countPairs 30 = .ok (.aaload, 1) := by decide +kernel
theorem dC_countPairs_31 : decode cC_countPairs 31 = .ok (.iload 5, 2) := by decide +kernel
theorem dC_countPairs_33 : decode cC_countPairs 33 = .ok (.iconst 0, 1) := by decide +kernel
theorem dC_countPairs_34 : decode cC_countPairs 34 = .ok (.iastore, 1) := by decide +kernel
theorem dC_countPairs_35 : decode cC_countPairs 35 = .ok (.iinc 5 1, 3) := by decide +kernel
theorem dC_countPairs_38 : decode cC_countPairs 38 = .ok (.goto (-20), 3) := by decide +kernel
theorem dC_countPairs_41 : decode cC_countPairs 41 = .ok (.iload_n 3, 1) := by decide +kernel
theorem dC_countPairs_42 : decode cC_countPairs 42 = .ok (.iconst 1, 1) := by decide +kernel
theorem dC_countPairs_43 : decode cC_countPairs 43 = .ok (.isub, 1) := by decide +kernel
theorem dC_countPairs_44 : decode cC_countPairs 44 = .ok (.istore 5, 2) := by decide +kernel
theorem dC_countPairs_46 : decode cC_countPairs 46 = .ok (.iload 5, 2) := by decide +kernel
theorem dC_countPairs_48 : decode cC_countPairs 48 = .ok (.ifCond .lt 114, 3) := by decide +kernel
theorem dC_countPairs_51 : decode cC_countPairs 51 = .ok (.aload_n 0, 1) := by decide +kernel
theorem dC_countPairs_52 : decode cC_countPairs 52 = .ok (.getfield 44, 3) := by decide +kernel
theorem dC_countPairs_55 : decode cC_countPairs 55 = .ok (.iload 5, 2) := by decide +kernel
theorem dC_countPairs_57 : decode cC_countPairs 57 = .ok (.aaload, 1) := by decide +kernel
theorem dC_countPairs_58 : decode cC_countPairs 58 = .ok (.iload 4, 2) := by decide +kernel
theorem dC_countPairs_60 : decode cC_countPairs 60 = .ok (.iconst 0, 1) := by decide +kernel
theorem dC_countPairs_61 : decode cC_countPairs 61 = .ok (.iastore, 1) := by decide +kernel
theorem dC_countPairs_62 : decode cC_countPairs 62 = .ok (.iload 4, 2) := by decide +kernel
theorem dC_countPairs_64 : decode cC_countPairs 64 = .ok (.iconst 1, 1) := by decide +kernel
theorem dC_countPairs_65 : decode cC_countPairs 65 = .ok (.isub, 1) := by decide +kernel
theorem dC_countPairs_66 : decode cC_countPairs 66 = .ok (.istore 6, 2) := by decide +kernel
theorem dC_countPairs_68 : decode cC_countPairs 68 = .ok (.iload 6, 2) := by decide +kernel
theorem dC_countPairs_70 : decode cC_countPairs 70 = .ok (.ifCond .lt 86, 3) := by decide +kernel
theorem dC_countPairs_73 : decode cC_countPairs 73 = .ok (.aload_n 0, 1) := by decide +kernel
theorem dC_countPairs_74 : decode cC_countPairs 74 = .ok (.getfield 44, 3) := by decide +kernel
theorem dC_countPairs_77 : decode cC_countPairs 77 = .ok (.iload 5, 2) := by decide +kernel
theorem dC_countPairs_79 : decode cC_countPairs 79 = .ok (.aaload, 1) := by decide +kernel
theorem dC_countPairs_80 : decode cC_countPairs 80 = .ok (.iload 6, 2) := by decide +kernel
theorem dC_countPairs_82 : decode cC_countPairs 82 = .ok (.aload_n 0, 1) := by decide +kernel
theorem dC_countPairs_83 : decode cC_countPairs 83 = .ok (.getfield 23, 3) := by decide +kernel
theorem dC_countPairs_86 : decode cC_countPairs 86 = .ok (.iload_n 1, 1) := by decide +kernel
theorem dC_countPairs_87 : decode cC_countPairs 87 = .ok (.aaload, 1) := by decide +kernel
theorem dC_countPairs_88 : decode cC_countPairs 88 = .ok (.iload 5, 2) := by decide +kernel
theorem dC_countPairs_90 : decode cC_countPairs 90 = .ok (.iaload, 1) := by decide +kernel
theorem dC_countPairs_91 : decode cC_countPairs 91 = .ok (.aload_n 0, 1) := by decide +kernel
theorem dC_countPairs_92 : decode cC_countPairs 92 = .ok (.getfield 23, 3) := by decide +kernel
theorem dC_countPairs_95 : decode cC_countPairs 95 = .ok (.iload_n 2, 1) := by decide +kernel
theorem dC_countPairs_96 : decode cC_countPairs 96 = .ok (.aaload, 1) := by decide +kernel
theorem dC_countPairs_97 : decode cC_countPairs 97 = .ok (.iload 6, 2) := by decide +kernel
theorem dC_countPairs_99 : decode cC_countPairs 99 = .ok (.iaload, 1) := by decide +kernel
theorem dC_countPairs_100 : decode cC_countPairs 100 = .ok (.if_icmp .ne 22, 3) := by decide +kernel
theorem dC_countPairs_103 : decode cC_countPairs 103 = .ok (.aload_n 0, 1) := by decide +kernel
theorem dC_countPairs_104 : decode cC_countPairs 104 = .ok (.getfield 44, 3) := by decide +kernel
theorem dC_countPairs_107 : decode cC_countPairs 107 = .ok (.iload 5, 2) := by decide +kernel
theorem dC_countPairs_109 : decode cC_countPairs 109 = .ok (.iconst 1, 1) := by decide +kernel
theorem dC_countPairs_110 : decode cC_countPairs 110 = .ok (.iadd, 1) := by decide +kernel
theorem dC_countPairs_111 : decode cC_countPairs 111 = .ok (.aaload, 1) := by decide +kernel
theorem dC_countPairs_112 : decode cC_countPairs 112 = .ok (.iload 6, 2) := by decide +kernel
theorem dC_countPairs_114 : decode cC_countPairs 114 = .ok (.iconst 1, 1) := by decide +kernel
theorem dC_countPairs_115 : decode cC_countPairs 115 = .ok (.iadd, 1) := by decide +kernel
theorem dC_countPairs_116 : decode cC_countPairs 116 = .ok (.iaload, 1) := by decide +kernel
theorem dC_countPairs_117 : decode cC_countPairs 117 = .ok (.iconst 1, 1) := by decide +kernel
theorem dC_countPairs_118 : decode cC_countPairs 118 = .ok (.iadd, 1) := by decide +kernel
theorem dC_countPairs_119 : decode cC_countPairs 119 = .ok (.goto 30, 3) := by decide +kernel
theorem dC_countPairs_122 : decode cC_countPairs 122 = .ok (.aload_n 0, 1) := by decide +kernel
theorem dC_countPairs_123 : decode cC_countPairs 123 = .ok (.getfield 44, 3) := by decide +kernel
theorem dC_countPairs_126 : decode cC_countPairs 126 = .ok (.iload 5, 2) := by decide +kernel
theorem dC_countPairs_128 : decode cC_countPairs 128 = .ok (.iconst 1, 1) := by decide +kernel
theorem dC_countPairs_129 : decode cC_countPairs 129 = .ok (.iadd, 1) := by decide +kernel
theorem dC_countPairs_130 : decode cC_countPairs 130 = .ok (.aaload, 1) := by decide +kernel
theorem dC_countPairs_131 : decode cC_countPairs 131 = .ok (.iload 6, 2) := by decide +kernel
theorem dC_countPairs_133 : decode cC_countPairs 133 = .ok (.iaload, 1) := by decide +kernel
theorem dC_countPairs_134 : decode cC_countPairs 134 = .ok (.aload_n 0, 1) := by decide +kernel
theorem dC_countPairs_135 : decode cC_countPairs 135 = .ok (.getfield 44, 3) := by decide +kernel
theorem dC_countPairs_138 : decode cC_countPairs 138 = .ok (.iload 5, 2) := by decide +kernel
theorem dC_countPairs_140 : decode cC_countPairs 140 = .ok (.aaload, 1) := by decide +kernel
theorem dC_countPairs_141 : decode cC_countPairs 141 = .ok (.iload 6, 2) := by decide +kernel
theorem dC_countPairs_143 : decode cC_countPairs 143 = .ok (.iconst 1, 1) := by decide +kernel
theorem dC_countPairs_144 : decode cC_countPairs 144 = .ok (.iadd, 1) := by decide +kernel
theorem dC_countPairs_145 : decode cC_countPairs 145 = .ok (.iaload, 1) := by decide +kernel
theorem dC_countPairs_146 : decode cC_countPairs 146 = .ok (.invokestatic 141, 3) := by decide +kernel
theorem dC_countPairs_149 : decode cC_countPairs 149 = .ok (.iastore, 1) := by decide +kernel
theorem dC_countPairs_150 : decode cC_countPairs 150 = .ok (.iinc 6 (-1), 3) := by decide +kernel
theorem dC_countPairs_153 : decode cC_countPairs 153 = .ok (.goto (-85), 3) := by decide +kernel
theorem dC_countPairs_156 : decode cC_countPairs 156 = .ok (.iinc 5 (-1), 3) := by decide +kernel
theorem dC_countPairs_159 : decode cC_countPairs 159 = .ok (.goto (-113), 3) := by decide +kernel
theorem dC_countPairs_162 : decode cC_countPairs 162 = .ok (.return_, 1) := by decide +kernel
theorem dC_choosePairs_0 : decode cC_choosePairs 0 = .ok (.iconst 0, 1) := by decide +kernel
theorem dC_choosePairs_1 : decode cC_choosePairs 1 = .ok (.istore_n 3, 1) := by decide +kernel
theorem dC_choosePairs_2 : decode cC_choosePairs 2 = .ok (.iconst 0, 1) := by decide +kernel
theorem dC_choosePairs_3 : decode cC_choosePairs 3 = .ok (.istore 4, 2) := by decide +kernel
theorem dC_choosePairs_5 : decode cC_choosePairs 5 = .ok (.iload 4, 2) := by decide +kernel
theorem dC_choosePairs_7 : decode cC_choosePairs 7 = .ok (.aload_n 0, 1) := by decide +kernel
theorem dC_choosePairs_8 : decode cC_choosePairs 8 = .ok (.getfield 13, 3) := by decide +kernel
theorem dC_choosePairs_11 : decode cC_choosePairs 11 = .ok (.iload_n 1, 1) := by decide +kernel
theorem dC_choosePairs_12 : decode cC_choosePairs 12 = .ok (.iaload, 1) := by decide +kernel
theorem dC_choosePairs_13 : decode cC_choosePairs 13 = .ok (.if_icmp .ge 85, 3) := by decide +kernel
theorem dC_choosePairs_16 : decode cC_choosePairs 16 = .ok (.aload_n 0, 1) := by decide +kernel
theorem dC_choosePairs_17 : decode cC_choosePairs 17 = .ok (.aload_n 0, 1) := by decide +kernel
theorem dC_choosePairs_18 : decode cC_choosePairs 18 = .ok (.getfield 23, 3) := by decide +kernel
theorem dC_choosePairs_21 : decode cC_choosePairs 21 = .ok (.iload_n 1, 1) := by decide +kernel
theorem dC_choosePairs_22 : decode cC_choosePairs 22 = .ok (.aaload, 1) := by decide +kernel
theorem dC_choosePairs_23 : decode cC_choosePairs 23 = .ok (.iload 4, 2) := by decide +kernel
theorem dC_choosePairs_25 : decode cC_choosePairs 25 = .ok (.iaload, 1) := by decide +kernel
theorem dC_choosePairs_26 : decode cC_choosePairs 26 = .ok (.iload_n 2, 1) := by decide +kernel
theorem dC_choosePairs_27 : decode cC_choosePairs 27 = .ok (.iload_n 3, 1) := by decide +kernel
theorem dC_choosePairs_28 : decode cC_choosePairs 28 = .ok (.invokevirtual 144, 3) := by decide +kernel
theorem dC_choosePairs_31 : decode cC_choosePairs 31 = .ok (.istore 5, 2) := by decide +kernel
theorem dC_choosePairs_33 : decode cC_choosePairs 33 = .ok (.iload 5, 2) := by decide +kernel
theorem dC_choosePairs_35 : decode cC_choosePairs 35 = .ok (.iconst (-1), 1) := by decide +kernel
theorem dC_choosePairs_36 : decode cC_choosePairs 36 = .ok (.if_icmp .eq 48, 3) := by decide +kernel
theorem dC_choosePairs_39 : decode cC_choosePairs 39 = .ok (.aload_n 0, 1) := by decide +kernel
theorem dC_choosePairs_40 : decode cC_choosePairs 40 = .ok (.getfield 44, 3) := by decide +kernel
theorem dC_choosePairs_43 : decode cC_choosePairs 43 = .ok (.iload 4, 2) := by decide +kernel
theorem dC_choosePairs_45 : decode cC_choosePairs 45 = .ok (.iconst 1, 1) := by decide +kernel
theorem dC_choosePairs_46 : decode cC_choosePairs 46 = .ok (.iadd, 1) := by decide +kernel
theorem dC_choosePairs_47 : decode cC_choosePairs 47 = .ok (.aaload, 1) := by decide +kernel
theorem dC_choosePairs_48 : decode cC_choosePairs 48 = .ok (.iload 5, 2) := by decide +kernel
theorem dC_choosePairs_50 : decode cC_choosePairs 50 = .ok (.iconst 1, 1) := by decide +kernel
theorem dC_choosePairs_51 : decode cC_choosePairs 51 = .ok (.iadd, 1) := by decide +kernel
theorem dC_choosePairs_52 : decode cC_choosePairs 52 = .ok (.iaload, 1) := by decide +kernel
theorem dC_choosePairs_53 : decode cC_choosePairs 53 = .ok (.iconst 1, 1) := by decide +kernel
theorem dC_choosePairs_54 : decode cC_choosePairs 54 = .ok (.iadd, 1) := by decide +kernel
theorem dC_choosePairs_55 : decode cC_choosePairs 55 = .ok (.aload_n 0, 1) := by decide +kernel
theorem dC_choosePairs_56 : decode cC_choosePairs 56 = .ok (.getfield 44, 3) := by decide +kernel
theorem dC_choosePairs_59 : decode cC_choosePairs 59 = .ok (.iload 4, 2) := by decide +kernel
theorem dC_choosePairs_61 : decode cC_choosePairs 61 = .ok (.aaload, 1) := by decide +kernel
theorem dC_choosePairs_62 : decode cC_choosePairs 62 = .ok (.iload_n 3, 1) := by decide +kernel
theorem dC_choosePairs_63 : decode cC_choosePairs 63 = .ok (.iaload, 1) := by decide +kernel
theorem dC_choosePairs_64 : decode cC_choosePairs 64 = .ok (.if_icmp .ne 20, 3) := by decide +kernel
theorem dC_choosePairs_67 : decode cC_choosePairs 67 = .ok (.aload_n 0, 1) := by decide +kernel
theorem dC_choosePairs_68 : decode cC_choosePairs 68 = .ok (.getfield 47, 3) := by decide +kernel
theorem dC_choosePairs_71 : decode cC_choosePairs 71 = .ok (.iload 4, 2) := by decide +kernel
theorem dC_choosePairs_73 : decode cC_choosePairs 73 = .ok (.iload 5, 2) := by decide +kernel
theorem dC_choosePairs_75 : decode cC_choosePairs 75 = .ok (.iastore, 1) := by decide +kernel
theorem dC_choosePairs_76 : decode cC_choosePairs 76 = .ok (.iload 5, 2) := by decide +kernel
theorem dC_choosePairs_78 : decode cC_choosePairs 78 = .ok (.iconst 1, 1) := by decide +kernel
theorem dC_choosePairs_79 : decode cC_choosePairs 79 = .ok (.iadd, 1) := by decide +kernel
theorem dC_choosePairs_80 : decode cC_choosePairs 80 = .ok (.istore_n 3, 1) := by decide +kernel
theorem dC_choosePairs_81 : decode cC_choosePairs 81 = .ok (.goto 11, 3) := by decide +kernel
theorem dC_choosePairs_84 : decode cC_choosePairs 84 = .ok (.aload_n 0, 1) := by decide +kernel
theorem dC_choosePairs_85 : decode cC_choosePairs 85 = .ok (.getfield 47, 3) := by decide +kernel
theorem dC_choosePairs_88 : decode cC_choosePairs 88 = .ok (.iload 4, 2) := by decide +kernel
theorem dC_choosePairs_90 : decode cC_choosePairs 90 = .ok (.iconst (-1), 1) := by decide +kernel
theorem dC_choosePairs_91 : decode cC_choosePairs 91 = .ok (.iastore, 1) := by decide +kernel
theorem dC_choosePairs_92 : decode cC_choosePairs 92 = .ok (.iinc 4 1, 3) := by decide +kernel
theorem dC_choosePairs_95 : decode cC_choosePairs 95 = .ok (.goto (-90), 3) := by decide +kernel
theorem dC_choosePairs_98 : decode cC_choosePairs 98 = .ok (.return_, 1) := by decide +kernel
theorem dC_placeOf_0 : decode cC_placeOf 0 = .ok (.iload_n 3, 1) := by decide +kernel
theorem dC_placeOf_1 : decode cC_placeOf 1 = .ok (.istore 4, 2) := by decide +kernel
theorem dC_placeOf_3 : decode cC_placeOf 3 = .ok (.iload 4, 2) := by decide +kernel
theorem dC_placeOf_5 : decode cC_placeOf 5 = .ok (.aload_n 0, 1) := by decide +kernel
theorem dC_placeOf_6 : decode cC_placeOf 6 = .ok (.getfield 13, 3) := by decide +kernel
theorem dC_placeOf_9 : decode cC_placeOf 9 = .ok (.iload_n 2, 1) := by decide +kernel
theorem dC_placeOf_10 : decode cC_placeOf 10 = .ok (.iaload, 1) := by decide +kernel
theorem dC_placeOf_11 : decode cC_placeOf 11 = .ok (.if_icmp .ge 25, 3) := by decide +kernel
theorem dC_placeOf_14 : decode cC_placeOf 14 = .ok (.aload_n 0, 1) := by decide +kernel
theorem dC_placeOf_15 : decode cC_placeOf 15 = .ok (.getfield 23, 3) := by decide +kernel
theorem dC_placeOf_18 : decode cC_placeOf 18 = .ok (.iload_n 2, 1) := by decide +kernel
theorem dC_placeOf_19 : decode cC_placeOf 19 = .ok (.aaload, 1) := by decide +kernel
theorem dC_placeOf_20 : decode cC_placeOf 20 = .ok (.iload 4, 2) := by decide +kernel
theorem dC_placeOf_22 : decode cC_placeOf 22 = .ok (.iaload, 1) := by decide +kernel
theorem dC_placeOf_23 : decode cC_placeOf 23 = .ok (.iload_n 1, 1) := by decide +kernel
theorem dC_placeOf_24 : decode cC_placeOf 24 = .ok (.if_icmp .ne 6, 3) := by decide +kernel
theorem dC_placeOf_27 : decode cC_placeOf 27 = .ok (.iload 4, 2) := by decide +kernel
theorem dC_placeOf_29 : decode cC_placeOf 29 = .ok (.ireturn, 1) := by decide +kernel
theorem dC_placeOf_30 : decode cC_placeOf 30 = .ok (.iinc 4 1, 3) := by decide +kernel
theorem dC_placeOf_33 : decode cC_placeOf 33 = .ok (.goto (-30), 3) := by decide +kernel
theorem dC_placeOf_36 : decode cC_placeOf 36 = .ok (.iconst (-1), 1) := by decide +kernel
theorem dC_placeOf_37 : decode cC_placeOf 37 = .ok (.ireturn, 1) := by decide +kernel
theorem dC_pairsOf_0 : decode cC_pairsOf 0 = .ok (.lconst 0, 1) := by decide +kernel
theorem dC_pairsOf_1 : decode cC_pairsOf 1 = .ok (.lstore 4, 2) := by decide +kernel
theorem dC_pairsOf_3 : decode cC_pairsOf 3 = .ok (.iconst 0, 1) := by decide +kernel
theorem dC_pairsOf_4 : decode cC_pairsOf 4 = .ok (.istore 6, 2) := by decide +kernel
theorem dC_pairsOf_6 : decode cC_pairsOf 6 = .ok (.iload 6, 2) := by decide +kernel
theorem dC_pairsOf_8 : decode cC_pairsOf 8 = .ok (.aload_n 0, 1) := by decide +kernel
theorem dC_pairsOf_9 : decode cC_pairsOf 9 = .ok (.getfield 13, 3) := by decide +kernel
theorem dC_pairsOf_12 : decode cC_pairsOf 12 = .ok (.iload_n 1, 1) := by decide +kernel
theorem dC_pairsOf_13 : decode cC_pairsOf 13 = .ok (.iaload, 1) := by decide +kernel
theorem dC_pairsOf_14 : decode cC_pairsOf 14 = .ok (.if_icmp .ge 47, 3) := by decide +kernel
theorem dC_pairsOf_17 : decode cC_pairsOf 17 = .ok (.lload_n 2, 1) := by decide +kernel
theorem dC_pairsOf_18 : decode cC_pairsOf 18 = .ok (.iload 6, 2) := by decide +kernel
theorem dC_pairsOf_20 : decode cC_pairsOf 20 = .ok (.invokestatic 67, 3) := by decide +kernel
theorem dC_pairsOf_23 : decode cC_pairsOf 23 = .ok (.land, 1) := by decide +kernel
theorem dC_pairsOf_24 : decode cC_pairsOf 24 = .ok (.lconst 0, 1) := by decide +kernel
theorem dC_pairsOf_25 : decode cC_pairsOf 25 = .ok (.lcmp, 1) := by decide +kernel
theorem dC_pairsOf_26 : decode cC_pairsOf 26 = .ok (.ifCond .eq 29, 3) := by decide +kernel
theorem dC_pairsOf_29 : decode cC_pairsOf 29 = .ok (.aload_n 0, 1) := by decide +kernel
theorem dC_pairsOf_30 : decode cC_pairsOf 30 = .ok (.getfield 47, 3) := by decide +kernel
theorem dC_pairsOf_33 : decode cC_pairsOf 33 = .ok (.iload 6, 2) := by decide +kernel
theorem dC_pairsOf_35 : decode cC_pairsOf 35 = .ok (.iaload, 1) := by decide +kernel
theorem dC_pairsOf_36 : decode cC_pairsOf 36 = .ok (.iconst (-1), 1) := by decide +kernel
theorem dC_pairsOf_37 : decode cC_pairsOf 37 = .ok (.if_icmp .eq 18, 3) := by decide +kernel
theorem dC_pairsOf_40 : decode cC_pairsOf 40 = .ok (.lload 4, 2) := by decide +kernel
theorem dC_pairsOf_42 : decode cC_pairsOf 42 = .ok (.aload_n 0, 1) := by decide +kernel
theorem dC_pairsOf_43 : decode cC_pairsOf 43 = .ok (.getfield 47, 3) := by decide +kernel
theorem dC_pairsOf_46 : decode cC_pairsOf 46 = .ok (.iload 6, 2) := by decide +kernel
theorem dC_pairsOf_48 : decode cC_pairsOf 48 = .ok (.iaload, 1) := by decide +kernel
theorem dC_pairsOf_49 : decode cC_pairsOf 49 = .ok (.invokestatic 67, 3) := by decide +kernel
theorem dC_pairsOf_52 : decode cC_pairsOf 52 = .ok (.lor, 1) := by decide +kernel
theorem dC_pairsOf_53 : decode cC_pairsOf 53 = .ok (.lstore 4, 2) := by decide +kernel
theorem dC_pairsOf_55 : decode cC_pairsOf 55 = .ok (.iinc 6 1, 3) := by decide +kernel
theorem dC_pairsOf_58 : decode cC_pairsOf 58 = .ok (.goto (-52), 3) := by decide +kernel
theorem dC_pairsOf_61 : decode cC_pairsOf 61 = .ok (.lload 4, 2) := by decide +kernel
theorem dC_pairsOf_63 : decode cC_pairsOf 63 = .ok (.lreturn, 1) := by decide +kernel
theorem dC_join_0 : decode cC_join 0 = .ok (.aload_n 0, 1) := by decide +kernel
theorem dC_join_1 : decode cC_join 1 = .ok (.iload_n 1, 1) := by decide +kernel
theorem dC_join_2 : decode cC_join 2 = .ok (.invokevirtual 76, 3) := by decide +kernel
theorem dC_join_5 : decode cC_join 5 = .ok (.ifCond .eq 26, 3) := by decide +kernel
theorem dC_join_8 : decode cC_join 8 = .ok (.aload_n 0, 1) := by decide +kernel
theorem dC_join_9 : decode cC_join 9 = .ok (.iload_n 2, 1) := by decide +kernel
theorem dC_join_10 : decode cC_join 10 = .ok (.invokevirtual 76, 3) := by decide +kernel
theorem dC_join_13 : decode cC_join 13 = .ok (.ifCond .eq 18, 3) := by decide +kernel
theorem dC_join_16 : decode cC_join 16 = .ok (.aload_n 0, 1) := by decide +kernel
theorem dC_join_17 : decode cC_join 17 = .ok (.getfield 34, 3) := by decide +kernel
theorem dC_join_20 : decode cC_join 20 = .ok (.iload_n 1, 1) := by decide +kernel
theorem dC_join_21 : decode cC_join 21 = .ok (.iaload, 1) := by decide +kernel
theorem dC_join_22 : decode cC_join 22 = .ok (.aload_n 0, 1) := by decide +kernel
theorem dC_join_23 : decode cC_join 23 = .ok (.getfield 34, 3) := by decide +kernel
theorem dC_join_26 : decode cC_join 26 = .ok (.iload_n 2, 1) := by decide +kernel
theorem dC_join_27 : decode cC_join 27 = .ok (.iaload, 1) := by decide +kernel
theorem dC_join_28 : decode cC_join 28 = .ok (.if_icmp .eq 5, 3) := by decide +kernel
theorem dC_join_31 : decode cC_join 31 = .ok (.iconst (-1), 1) := by decide +kernel
theorem dC_join_32 : decode cC_join 32 = .ok (.ireturn, 1) := by decide +kernel
theorem dC_join_33 : decode cC_join 33 = .ok (.aload_n 0, 1) := by decide +kernel
theorem dC_join_34 : decode cC_join 34 = .ok (.getfield 37, 3) := by decide +kernel
theorem dC_join_37 : decode cC_join 37 = .ok (.iload_n 1, 1) := by decide +kernel
theorem dC_join_38 : decode cC_join 38 = .ok (.iaload, 1) := by decide +kernel
theorem dC_join_39 : decode cC_join 39 = .ok (.aload_n 0, 1) := by decide +kernel
theorem dC_join_40 : decode cC_join 40 = .ok (.getfield 37, 3) := by decide +kernel
theorem dC_join_43 : decode cC_join 43 = .ok (.iload_n 2, 1) := by decide +kernel
theorem dC_join_44 : decode cC_join 44 = .ok (.iaload, 1) := by decide +kernel
theorem dC_join_45 : decode cC_join 45 = .ok (.iadd, 1) := by decide +kernel
theorem dC_join_46 : decode cC_join 46 = .ok (.ldc 71, 2) := by decide +kernel
theorem dC_join_48 : decode cC_join 48 = .ok (.invokestatic 94, 3) := by decide +kernel
theorem dC_join_51 : decode cC_join 51 = .ok (.istore_n 3, 1) := by decide +kernel
theorem dC_join_52 : decode cC_join 52 = .ok (.aload_n 0, 1) := by decide +kernel
theorem dC_join_53 : decode cC_join 53 = .ok (.aload_n 0, 1) := by decide +kernel
theorem dC_join_54 : decode cC_join 54 = .ok (.getfield 34, 3) := by decide +kernel
theorem dC_join_57 : decode cC_join 57 = .ok (.iload_n 1, 1) := by decide +kernel
theorem dC_join_58 : decode cC_join 58 = .ok (.iaload, 1) := by decide +kernel
theorem dC_join_59 : decode cC_join 59 = .ok (.iload_n 3, 1) := by decide +kernel
theorem dC_join_60 : decode cC_join 60 = .ok (.aload_n 0, 1) := by decide +kernel
theorem dC_join_61 : decode cC_join 61 = .ok (.getfield 40, 3) := by decide +kernel
theorem dC_join_64 : decode cC_join 64 = .ok (.iload_n 1, 1) := by decide +kernel
theorem dC_join_65 : decode cC_join 65 = .ok (.laload, 1) := by decide +kernel
theorem dC_join_66 : decode cC_join 66 = .ok (.aload_n 0, 1) := by decide +kernel
theorem dC_join_67 : decode cC_join 67 = .ok (.getfield 40, 3) := by decide +kernel
theorem dC_join_70 : decode cC_join 70 = .ok (.iload_n 2, 1) := by decide +kernel
theorem dC_join_71 : decode cC_join 71 = .ok (.laload, 1) := by decide +kernel
theorem dC_join_72 : decode cC_join 72 = .ok (.lor, 1) := by decide +kernel
theorem dC_join_73 : decode cC_join 73 = .ok (.invokevirtual 72, 3) := by decide +kernel
theorem dC_join_76 : decode cC_join 76 = .ok (.ireturn, 1) := by decide +kernel
theorem dC_same_0 : decode cC_same 0 = .ok (.aload_n 0, 1) := by decide +kernel
theorem dC_same_1 : decode cC_same 1 = .ok (.iload_n 1, 1) := by decide +kernel
theorem dC_same_2 : decode cC_same 2 = .ok (.invokevirtual 60, 3) := by decide +kernel
theorem dC_same_5 : decode cC_same 5 = .ok (.ifCond .eq 20, 3) := by decide +kernel
theorem dC_same_8 : decode cC_same 8 = .ok (.aload_n 0, 1) := by decide +kernel
theorem dC_same_9 : decode cC_same 9 = .ok (.iload_n 2, 1) := by decide +kernel
theorem dC_same_10 : decode cC_same 10 = .ok (.invokevirtual 60, 3) := by decide +kernel
theorem dC_same_13 : decode cC_same 13 = .ok (.ifCond .eq 12, 3) := by decide +kernel
theorem dC_same_16 : decode cC_same 16 = .ok (.aload_n 0, 1) := by decide +kernel
theorem dC_same_17 : decode cC_same 17 = .ok (.iload_n 1, 1) := by decide +kernel
theorem dC_same_18 : decode cC_same 18 = .ok (.iload_n 3, 1) := by decide +kernel
theorem dC_same_19 : decode cC_same 19 = .ok (.invokevirtual 79, 3) := by decide +kernel
theorem dC_same_22 : decode cC_same 22 = .ok (.ifCond .ne 5, 3) := by decide +kernel
theorem dC_same_25 : decode cC_same 25 = .ok (.iconst (-1), 1) := by decide +kernel
theorem dC_same_26 : decode cC_same 26 = .ok (.ireturn, 1) := by decide +kernel
theorem dC_same_27 : decode cC_same 27 = .ok (.aload_n 0, 1) := by decide +kernel
theorem dC_same_28 : decode cC_same 28 = .ok (.iload_n 1, 1) := by decide +kernel
theorem dC_same_29 : decode cC_same 29 = .ok (.iload_n 2, 1) := by decide +kernel
theorem dC_same_30 : decode cC_same 30 = .ok (.invokevirtual 86, 3) := by decide +kernel
theorem dC_same_33 : decode cC_same 33 = .ok (.aload_n 0, 1) := by decide +kernel
theorem dC_same_34 : decode cC_same 34 = .ok (.getfield 47, 3) := by decide +kernel
theorem dC_same_37 : decode cC_same 37 = .ok (.iload_n 3, 1) := by decide +kernel
theorem dC_same_38 : decode cC_same 38 = .ok (.iaload, 1) := by decide +kernel
theorem dC_same_39 : decode cC_same 39 = .ok (.ireturn, 1) := by decide +kernel
theorem dC_share_0 : decode cC_share 0 = .ok (.aload_n 0, 1) := by decide +kernel
theorem dC_share_1 : decode cC_share 1 = .ok (.iload_n 1, 1) := by decide +kernel
theorem dC_share_2 : decode cC_share 2 = .ok (.invokevirtual 76, 3) := by decide +kernel
theorem dC_share_5 : decode cC_share 5 = .ok (.ifCond .eq 10, 3) := by decide +kernel
theorem dC_share_8 : decode cC_share 8 = .ok (.iload_n 2, 1) := by decide +kernel
theorem dC_share_9 : decode cC_share 9 = .ok (.invokestatic 64, 3) := by decide +kernel
theorem dC_share_12 : decode cC_share 12 = .ok (.ifCond .ne 5, 3) := by decide +kernel
theorem dC_share_15 : decode cC_share 15 = .ok (.iconst (-1), 1) := by decide +kernel
theorem dC_share_16 : decode cC_share 16 = .ok (.ireturn, 1) := by decide +kernel
theorem dC_share_17 : decode cC_share 17 = .ok (.iload_n 3, 1) := by decide +kernel
theorem dC_share_18 : decode cC_share 18 = .ok (.ifCond .eq 12, 3) := by decide +kernel
theorem dC_share_21 : decode cC_share 21 = .ok (.aload_n 0, 1) := by decide +kernel
theorem dC_share_22 : decode cC_share 22 = .ok (.iload_n 1, 1) := by decide +kernel
theorem dC_share_23 : decode cC_share 23 = .ok (.iload_n 2, 1) := by decide +kernel
theorem dC_share_24 : decode cC_share 24 = .ok (.invokevirtual 100, 3) := by decide +kernel
theorem dC_share_27 : decode cC_share 27 = .ok (.goto 9, 3) := by decide +kernel
theorem dC_share_30 : decode cC_share 30 = .ok (.aload_n 0, 1) := by decide +kernel
theorem dC_share_31 : decode cC_share 31 = .ok (.iload_n 1, 1) := by decide +kernel
theorem dC_share_32 : decode cC_share 32 = .ok (.iload_n 2, 1) := by decide +kernel
theorem dC_share_33 : decode cC_share 33 = .ok (.invokevirtual 103, 3) := by decide +kernel
theorem dC_share_36 : decode cC_share 36 = .ok (.ireturn, 1) := by decide +kernel
theorem dC_hitShare_0 : decode cC_hitShare 0 = .ok (.aload_n 0, 1) := by decide +kernel
theorem dC_hitShare_1 : decode cC_hitShare 1 = .ok (.getfield 28, 3) := by decide +kernel
theorem dC_hitShare_4 : decode cC_hitShare 4 = .ok (.aload_n 0, 1) := by decide +kernel
theorem dC_hitShare_5 : decode cC_hitShare 5 = .ok (.getfield 34, 3) := by decide +kernel
theorem dC_hitShare_8 : decode cC_hitShare 8 = .ok (.iload_n 1, 1) := by decide +kernel
theorem dC_hitShare_9 : decode cC_hitShare 9 = .ok (.iaload, 1) := by decide +kernel
theorem dC_hitShare_10 : decode cC_hitShare 10 = .ok (.aaload, 1) := by decide +kernel
theorem dC_hitShare_11 : decode cC_hitShare 11 = .ok (.iload_n 2, 1) := by decide +kernel
theorem dC_hitShare_12 : decode cC_hitShare 12 = .ok (.laload, 1) := by decide +kernel
theorem dC_hitShare_13 : decode cC_hitShare 13 = .ok (.aload_n 0, 1) := by decide +kernel
theorem dC_hitShare_14 : decode cC_hitShare 14 = .ok (.getfield 40, 3) := by decide +kernel
theorem dC_hitShare_17 : decode cC_hitShare 17 = .ok (.iload_n 1, 1) := by decide +kernel
theorem dC_hitShare_18 : decode cC_hitShare 18 = .ok (.laload, 1) := by decide +kernel
theorem dC_hitShare_19 : decode cC_hitShare 19 = .ok (.land, 1) := by decide +kernel
theorem dC_hitShare_20 : decode cC_hitShare 20 = .ok (.invokestatic 114, 3) := by decide +kernel
theorem dC_hitShare_23 : decode cC_hitShare 23 = .ok (.ireturn, 1) := by decide +kernel
theorem dJ_bitCount_0 : decode cJ_bitCount 0 = .ok (.lload_n 0, 1) := by decide +kernel
theorem dJ_bitCount_1 : decode cJ_bitCount 1 = .ok (.lload_n 0, 1) := by decide +kernel
theorem dJ_bitCount_2 : decode cJ_bitCount 2 = .ok (.iconst 1, 1) := by decide +kernel
theorem dJ_bitCount_3 : decode cJ_bitCount 3 = .ok (.lushr, 1) := by decide +kernel
theorem dJ_bitCount_4 : decode cJ_bitCount 4 = .ok (.ldc2_w 314, 3) := by decide +kernel
theorem dJ_bitCount_7 : decode cJ_bitCount 7 = .ok (.land, 1) := by decide +kernel
theorem dJ_bitCount_8 : decode cJ_bitCount 8 = .ok (.lsub, 1) := by decide +kernel
theorem dJ_bitCount_9 : decode cJ_bitCount 9 = .ok (.lstore_n 0, 1) := by decide +kernel
theorem dJ_bitCount_10 : decode cJ_bitCount 10 = .ok (.lload_n 0, 1) := by decide +kernel
theorem dJ_bitCount_11 : decode cJ_bitCount 11 = .ok (.ldc2_w 316, 3) := by decide +kernel
theorem dJ_bitCount_14 : decode cJ_bitCount 14 = .ok (.land, 1) := by decide +kernel
theorem dJ_bitCount_15 : decode cJ_bitCount 15 = .ok (.lload_n 0, 1) := by decide +kernel
theorem dJ_bitCount_16 : decode cJ_bitCount 16 = .ok (.iconst 2, 1) := by decide +kernel
theorem dJ_bitCount_17 : decode cJ_bitCount 17 = .ok (.lushr, 1) := by decide +kernel
theorem dJ_bitCount_18 : decode cJ_bitCount 18 = .ok (.ldc2_w 316, 3) := by decide +kernel
theorem dJ_bitCount_21 : decode cJ_bitCount 21 = .ok (.land, 1) := by decide +kernel
theorem dJ_bitCount_22 : decode cJ_bitCount 22 = .ok (.ladd, 1) := by decide +kernel
theorem dJ_bitCount_23 : decode cJ_bitCount 23 = .ok (.lstore_n 0, 1) := by decide +kernel
theorem dJ_bitCount_24 : decode cJ_bitCount 24 = .ok (.lload_n 0, 1) := by decide +kernel
theorem dJ_bitCount_25 : decode cJ_bitCount 25 = .ok (.lload_n 0, 1) := by decide +kernel
theorem dJ_bitCount_26 : decode cJ_bitCount 26 = .ok (.iconst 4, 1) := by decide +kernel
theorem dJ_bitCount_27 : decode cJ_bitCount 27 = .ok (.lushr, 1) := by decide +kernel
theorem dJ_bitCount_28 : decode cJ_bitCount 28 = .ok (.ladd, 1) := by decide +kernel
theorem dJ_bitCount_29 : decode cJ_bitCount 29 = .ok (.ldc2_w 318, 3) := by decide +kernel
theorem dJ_bitCount_32 : decode cJ_bitCount 32 = .ok (.land, 1) := by decide +kernel
theorem dJ_bitCount_33 : decode cJ_bitCount 33 = .ok (.lstore_n 0, 1) := by decide +kernel
theorem dJ_bitCount_34 : decode cJ_bitCount 34 = .ok (.lload_n 0, 1) := by decide +kernel
theorem dJ_bitCount_35 : decode cJ_bitCount 35 = .ok (.lload_n 0, 1) := by decide +kernel
theorem dJ_bitCount_36 : decode cJ_bitCount 36 = .ok (.bipush 8, 2) := by decide +kernel
theorem dJ_bitCount_38 : decode cJ_bitCount 38 = .ok (.lushr, 1) := by decide +kernel
theorem dJ_bitCount_39 : decode cJ_bitCount 39 = .ok (.ladd, 1) := by decide +kernel
theorem dJ_bitCount_40 : decode cJ_bitCount 40 = .ok (.lstore_n 0, 1) := by decide +kernel
theorem dJ_bitCount_41 : decode cJ_bitCount 41 = .ok (.lload_n 0, 1) := by decide +kernel
theorem dJ_bitCount_42 : decode cJ_bitCount 42 = .ok (.lload_n 0, 1) := by decide +kernel
theorem dJ_bitCount_43 : decode cJ_bitCount 43 = .ok (.bipush 16, 2) := by decide +kernel
theorem dJ_bitCount_45 : decode cJ_bitCount 45 = .ok (.lushr, 1) := by decide +kernel
theorem dJ_bitCount_46 : decode cJ_bitCount 46 = .ok (.ladd, 1) := by decide +kernel
theorem dJ_bitCount_47 : decode cJ_bitCount 47 = .ok (.lstore_n 0, 1) := by decide +kernel
theorem dJ_bitCount_48 : decode cJ_bitCount 48 = .ok (.lload_n 0, 1) := by decide +kernel
theorem dJ_bitCount_49 : decode cJ_bitCount 49 = .ok (.lload_n 0, 1) := by decide +kernel
theorem dJ_bitCount_50 : decode cJ_bitCount 50 = .ok (.bipush 32, 2) := by decide +kernel
theorem dJ_bitCount_52 : decode cJ_bitCount 52 = .ok (.lushr, 1) := by decide +kernel
theorem dJ_bitCount_53 : decode cJ_bitCount 53 = .ok (.ladd, 1) := by decide +kernel
theorem dJ_bitCount_54 : decode cJ_bitCount 54 = .ok (.lstore_n 0, 1) := by decide +kernel
theorem dJ_bitCount_55 : decode cJ_bitCount 55 = .ok (.lload_n 0, 1) := by decide +kernel
theorem dJ_bitCount_56 : decode cJ_bitCount 56 = .ok (.l2i, 1) := by decide +kernel
theorem dJ_bitCount_57 : decode cJ_bitCount 57 = .ok (.bipush 127, 2) := by decide +kernel
theorem dJ_bitCount_59 : decode cJ_bitCount 59 = .ok (.iand, 1) := by decide +kernel
theorem dJ_bitCount_60 : decode cJ_bitCount 60 = .ok (.ireturn, 1) := by decide +kernel
theorem dC_wholeShare_0 : decode cC_wholeShare 0 = .ok (.aload_n 0, 1) := by decide +kernel
theorem dC_wholeShare_1 : decode cC_wholeShare 1 = .ok (.getfield 28, 3) := by decide +kernel
theorem dC_wholeShare_4 : decode cC_wholeShare 4 = .ok (.aload_n 0, 1) := by decide +kernel
theorem dC_wholeShare_5 : decode cC_wholeShare 5 = .ok (.getfield 34, 3) := by decide +kernel
theorem dC_wholeShare_8 : decode cC_wholeShare 8 = .ok (.iload_n 1, 1) := by decide +kernel
theorem dC_wholeShare_9 : decode cC_wholeShare 9 = .ok (.iaload, 1) := by decide +kernel
theorem dC_wholeShare_10 : decode cC_wholeShare 10 = .ok (.aaload, 1) := by decide +kernel
theorem dC_wholeShare_11 : decode cC_wholeShare 11 = .ok (.iload_n 2, 1) := by decide +kernel
theorem dC_wholeShare_12 : decode cC_wholeShare 12 = .ok (.laload, 1) := by decide +kernel
theorem dC_wholeShare_13 : decode cC_wholeShare 13 = .ok (.invokestatic 114, 3) := by decide +kernel
theorem dC_wholeShare_16 : decode cC_wholeShare 16 = .ok (.ireturn, 1) := by decide +kernel
theorem dC_fresh_0 : decode cC_fresh 0 = .ok (.aload_n 0, 1) := by decide +kernel
theorem dC_fresh_1 : decode cC_fresh 1 = .ok (.iload_n 1, 1) := by decide +kernel
theorem dC_fresh_2 : decode cC_fresh 2 = .ok (.invokevirtual 76, 3) := by decide +kernel
theorem dC_fresh_5 : decode cC_fresh 5 = .ok (.ifCond .eq 11, 3) := by decide +kernel
theorem dC_fresh_8 : decode cC_fresh 8 = .ok (.aload_n 0, 1) := by decide +kernel
theorem dC_fresh_9 : decode cC_fresh 9 = .ok (.iload_n 2, 1) := by decide +kernel
theorem dC_fresh_10 : decode cC_fresh 10 = .ok (.invokevirtual 60, 3) := by decide +kernel
theorem dC_fresh_13 : decode cC_fresh 13 = .ok (.ifCond .ne 5, 3) := by decide +kernel
theorem dC_fresh_16 : decode cC_fresh 16 = .ok (.iconst (-1), 1) := by decide +kernel
theorem dC_fresh_17 : decode cC_fresh 17 = .ok (.ireturn, 1) := by decide +kernel
theorem dC_fresh_18 : decode cC_fresh 18 = .ok (.aload_n 0, 1) := by decide +kernel
theorem dC_fresh_19 : decode cC_fresh 19 = .ok (.getfield 34, 3) := by decide +kernel
theorem dC_fresh_22 : decode cC_fresh 22 = .ok (.iload_n 1, 1) := by decide +kernel
theorem dC_fresh_23 : decode cC_fresh 23 = .ok (.iaload, 1) := by decide +kernel
theorem dC_fresh_24 : decode cC_fresh 24 = .ok (.istore 4, 2) := by decide +kernel
theorem dC_fresh_26 : decode cC_fresh 26 = .ok (.aload_n 0, 1) := by decide +kernel
theorem dC_fresh_27 : decode cC_fresh 27 = .ok (.iload_n 2, 1) := by decide +kernel
theorem dC_fresh_28 : decode cC_fresh 28 = .ok (.iload 4, 2) := by decide +kernel
theorem dC_fresh_30 : decode cC_fresh 30 = .ok (.invokevirtual 86, 3) := by decide +kernel
theorem dC_fresh_33 : decode cC_fresh 33 = .ok (.aload_n 0, 1) := by decide +kernel
theorem dC_fresh_34 : decode cC_fresh 34 = .ok (.iload 4, 2) := by decide +kernel
theorem dC_fresh_36 : decode cC_fresh 36 = .ok (.invokevirtual 106, 3) := by decide +kernel
theorem dC_fresh_39 : decode cC_fresh 39 = .ok (.aload_n 0, 1) := by decide +kernel
theorem dC_fresh_40 : decode cC_fresh 40 = .ok (.iload_n 2, 1) := by decide +kernel
theorem dC_fresh_41 : decode cC_fresh 41 = .ok (.aload_n 0, 1) := by decide +kernel
theorem dC_fresh_42 : decode cC_fresh 42 = .ok (.getfield 13, 3) := by decide +kernel
theorem dC_fresh_45 : decode cC_fresh 45 = .ok (.iload_n 2, 1) := by decide +kernel
theorem dC_fresh_46 : decode cC_fresh 46 = .ok (.iaload, 1) := by decide +kernel
theorem dC_fresh_47 : decode cC_fresh 47 = .ok (.invokestatic 109, 3) := by decide +kernel
theorem dC_fresh_50 : decode cC_fresh 50 = .ok (.invokevirtual 90, 3) := by decide +kernel
theorem dC_fresh_53 : decode cC_fresh 53 = .ok (.ldc2_w 112, 3) := by decide +kernel
theorem dC_fresh_56 : decode cC_fresh 56 = .ok (.lxor, 1) := by decide +kernel
theorem dC_fresh_57 : decode cC_fresh 57 = .ok (.land, 1) := by decide +kernel
theorem dC_fresh_58 : decode cC_fresh 58 = .ok (.lstore 5, 2) := by decide +kernel
theorem dC_fresh_60 : decode cC_fresh 60 = .ok (.iload_n 3, 1) := by decide +kernel
theorem dC_fresh_61 : decode cC_fresh 61 = .ok (.ifCond .eq 15, 3) := by decide +kernel
theorem dC_fresh_64 : decode cC_fresh 64 = .ok (.lload 5, 2) := by decide +kernel
theorem dC_fresh_66 : decode cC_fresh 66 = .ok (.aload_n 0, 1) := by decide +kernel
theorem dC_fresh_67 : decode cC_fresh 67 = .ok (.getfield 40, 3) := by decide +kernel
theorem dC_fresh_70 : decode cC_fresh 70 = .ok (.iload_n 1, 1) := by decide +kernel
theorem dC_fresh_71 : decode cC_fresh 71 = .ok (.laload, 1) := by decide +kernel
theorem dC_fresh_72 : decode cC_fresh 72 = .ok (.land, 1) := by decide +kernel
theorem dC_fresh_73 : decode cC_fresh 73 = .ok (.goto 5, 3) := by decide +kernel
theorem dC_fresh_76 : decode cC_fresh 76 = .ok (.lload 5, 2) := by decide +kernel
theorem dC_fresh_78 : decode cC_fresh 78 = .ok (.invokestatic 114, 3) := by decide +kernel
theorem dC_fresh_81 : decode cC_fresh 81 = .ok (.ireturn, 1) := by decide +kernel
theorem dC_ungenerated_0 : decode cC_ungenerated 0 = .ok (.lconst 0, 1) := by decide +kernel
theorem dC_ungenerated_1 : decode cC_ungenerated 1 = .ok (.lstore_n 2, 1) := by decide +kernel
theorem dC_ungenerated_2 : decode cC_ungenerated 2 = .ok (.iconst 0, 1) := by decide +kernel
theorem dC_ungenerated_3 : decode cC_ungenerated 3 = .ok (.istore 4, 2) := by decide +kernel
theorem dC_ungenerated_5 : decode cC_ungenerated 5 = .ok (.iload 4, 2) := by decide +kernel
theorem dC_ungenerated_7 : decode cC_ungenerated 7 = .ok (.iconst 4, 1) := by decide +kernel
theorem dC_ungenerated_8 : decode cC_ungenerated 8 = .ok (.if_icmp .ge 21, 3) := by decide +kernel
theorem dC_ungenerated_11 : decode cC_ungenerated 11 = .ok (.lload_n 2, 1) := by decide +kernel
theorem dC_ungenerated_12 : decode cC_ungenerated 12 = .ok (.aload_n 0, 1) := by decide +kernel
theorem dC_ungenerated_13 : decode cC_ungenerated 13 = .ok (.getfield 28, 3) := by decide +kernel
theorem dC_ungenerated_16 : decode cC_ungenerated 16 = .ok (.iload_n 1, 1) := by decide +kernel
theorem dC_ungenerated_17 : decode cC_ungenerated 17 = .ok (.aaload, 1) := by decide +kernel
theorem dC_ungenerated_18 : decode cC_ungenerated 18 = .ok (.iload 4, 2) := by decide +kernel
theorem dC_ungenerated_20 : decode cC_ungenerated 20 = .ok (.laload, 1) := by decide +kernel
theorem dC_ungenerated_21 : decode cC_ungenerated 21 = .ok (.lor, 1) := by decide +kernel
theorem dC_ungenerated_22 : decode cC_ungenerated 22 = .ok (.lstore_n 2, 1) := by decide +kernel
theorem dC_ungenerated_23 : decode cC_ungenerated 23 = .ok (.iinc 4 1, 3) := by decide +kernel
theorem dC_ungenerated_26 : decode cC_ungenerated 26 = .ok (.goto (-21), 3) := by decide +kernel
theorem dC_ungenerated_29 : decode cC_ungenerated 29 = .ok (.lload_n 2, 1) := by decide +kernel
theorem dC_ungenerated_30 : decode cC_ungenerated 30 = .ok (.lreturn, 1) := by decide +kernel
theorem dC_firstBits_0 : decode cC_firstBits 0 = .ok (.lconst 1, 1) := by decide +kernel
theorem dC_firstBits_1 : decode cC_firstBits 1 = .ok (.iload_n 0, 1) := by decide +kernel
theorem dC_firstBits_2 : decode cC_firstBits 2 = .ok (.lshl, 1) := by decide +kernel
theorem dC_firstBits_3 : decode cC_firstBits 3 = .ok (.lconst 1, 1) := by decide +kernel
theorem dC_firstBits_4 : decode cC_firstBits 4 = .ok (.lsub, 1) := by decide +kernel
theorem dC_firstBits_5 : decode cC_firstBits 5 = .ok (.lreturn, 1) := by decide +kernel
theorem dC_falls_0 : decode cC_falls 0 = .ok (.aload_n 0, 1) := by decide +kernel
theorem dC_falls_1 : decode cC_falls 1 = .ok (.iload_n 1, 1) := by decide +kernel
theorem dC_falls_2 : decode cC_falls 2 = .ok (.invokevirtual 76, 3) := by decide +kernel
theorem dC_falls_5 : decode cC_falls 5 = .ok (.ifCond .eq 18, 3) := by decide +kernel
theorem dC_falls_8 : decode cC_falls 8 = .ok (.aload_n 0, 1) := by decide +kernel
theorem dC_falls_9 : decode cC_falls 9 = .ok (.iload_n 2, 1) := by decide +kernel
theorem dC_falls_10 : decode cC_falls 10 = .ok (.invokevirtual 76, 3) := by decide +kernel
theorem dC_falls_13 : decode cC_falls 13 = .ok (.ifCond .eq 10, 3) := by decide +kernel
theorem dC_falls_16 : decode cC_falls 16 = .ok (.iload_n 3, 1) := by decide +kernel
theorem dC_falls_17 : decode cC_falls 17 = .ok (.invokestatic 64, 3) := by decide +kernel
theorem dC_falls_20 : decode cC_falls 20 = .ok (.ifCond .ne 6, 3) := by decide +kernel
theorem dC_falls_23 : decode cC_falls 23 = .ok (.bipush (-2), 2) := by decide +kernel
theorem dC_falls_25 : decode cC_falls 25 = .ok (.ireturn, 1) := by decide +kernel
theorem dC_falls_26 : decode cC_falls 26 = .ok (.aload_n 0, 1) := by decide +kernel
theorem dC_falls_27 : decode cC_falls 27 = .ok (.iload_n 1, 1) := by decide +kernel
theorem dC_falls_28 : decode cC_falls 28 = .ok (.iload_n 3, 1) := by decide +kernel
theorem dC_falls_29 : decode cC_falls 29 = .ok (.invokevirtual 103, 3) := by decide +kernel
theorem dC_falls_32 : decode cC_falls 32 = .ok (.istore 4, 2) := by decide +kernel
theorem dC_falls_34 : decode cC_falls 34 = .ok (.aload_n 0, 1) := by decide +kernel
theorem dC_falls_35 : decode cC_falls 35 = .ok (.iload_n 2, 1) := by decide +kernel
theorem dC_falls_36 : decode cC_falls 36 = .ok (.iload_n 3, 1) := by decide +kernel
theorem dC_falls_37 : decode cC_falls 37 = .ok (.invokevirtual 103, 3) := by decide +kernel
theorem dC_falls_40 : decode cC_falls 40 = .ok (.istore 5, 2) := by decide +kernel
theorem dC_falls_42 : decode cC_falls 42 = .ok (.iload 4, 2) := by decide +kernel
theorem dC_falls_44 : decode cC_falls 44 = .ok (.ifCond .eq 8, 3) := by decide +kernel
theorem dC_falls_47 : decode cC_falls 47 = .ok (.iload 5, 2) := by decide +kernel
theorem dC_falls_49 : decode cC_falls 49 = .ok (.ifCond .ne 5, 3) := by decide +kernel
theorem dC_falls_52 : decode cC_falls 52 = .ok (.iconst (-1), 1) := by decide +kernel
theorem dC_falls_53 : decode cC_falls 53 = .ok (.ireturn, 1) := by decide +kernel
theorem dC_falls_54 : decode cC_falls 54 = .ok (.aload_n 0, 1) := by decide +kernel
theorem dC_falls_55 : decode cC_falls 55 = .ok (.iload_n 1, 1) := by decide +kernel
theorem dC_falls_56 : decode cC_falls 56 = .ok (.iload_n 3, 1) := by decide +kernel
theorem dC_falls_57 : decode cC_falls 57 = .ok (.invokevirtual 100, 3) := by decide +kernel
theorem dC_falls_60 : decode cC_falls 60 = .ok (.iload 5, 2) := by decide +kernel
theorem dC_falls_62 : decode cC_falls 62 = .ok (.imul, 1) := by decide +kernel
theorem dC_falls_63 : decode cC_falls 63 = .ok (.aload_n 0, 1) := by decide +kernel
theorem dC_falls_64 : decode cC_falls 64 = .ok (.iload_n 2, 1) := by decide +kernel
theorem dC_falls_65 : decode cC_falls 65 = .ok (.iload_n 3, 1) := by decide +kernel
theorem dC_falls_66 : decode cC_falls 66 = .ok (.invokevirtual 100, 3) := by decide +kernel
theorem dC_falls_69 : decode cC_falls 69 = .ok (.iload 4, 2) := by decide +kernel
theorem dC_falls_71 : decode cC_falls 71 = .ok (.imul, 1) := by decide +kernel
theorem dC_falls_72 : decode cC_falls 72 = .ok (.if_icmp .ge 7, 3) := by decide +kernel
theorem dC_falls_75 : decode cC_falls 75 = .ok (.iconst 1, 1) := by decide +kernel
theorem dC_falls_76 : decode cC_falls 76 = .ok (.goto 4, 3) := by decide +kernel
theorem dC_falls_79 : decode cC_falls 79 = .ok (.iconst 0, 1) := by decide +kernel
theorem dC_falls_80 : decode cC_falls 80 = .ok (.ireturn, 1) := by decide +kernel
theorem dC_dead_0 : decode cC_dead 0 = .ok (.aload_n 0, 1) := by decide +kernel
theorem dC_dead_1 : decode cC_dead 1 = .ok (.iload_n 1, 1) := by decide +kernel
theorem dC_dead_2 : decode cC_dead 2 = .ok (.invokevirtual 60, 3) := by decide +kernel
theorem dC_dead_5 : decode cC_dead 5 = .ok (.ifCond .ne 5, 3) := by decide +kernel
theorem dC_dead_8 : decode cC_dead 8 = .ok (.iconst 0, 1) := by decide +kernel
theorem dC_dead_9 : decode cC_dead 9 = .ok (.ireturn, 1) := by decide +kernel
theorem dC_dead_10 : decode cC_dead 10 = .ok (.lconst 0, 1) := by decide +kernel
theorem dC_dead_11 : decode cC_dead 11 = .ok (.lstore_n 2, 1) := by decide +kernel
theorem dC_dead_12 : decode cC_dead 12 = .ok (.iconst 0, 1) := by decide +kernel
theorem dC_dead_13 : decode cC_dead 13 = .ok (.istore 4, 2) := by decide +kernel
theorem dC_dead_15 : decode cC_dead 15 = .ok (.iconst 0, 1) := by decide +kernel
theorem dC_dead_16 : decode cC_dead 16 = .ok (.istore 5, 2) := by decide +kernel
theorem dC_dead_18 : decode cC_dead 18 = .ok (.iload 5, 2) := by decide +kernel
theorem dC_dead_20 : decode cC_dead 20 = .ok (.aload_n 0, 1) := by decide +kernel
theorem dC_dead_21 : decode cC_dead 21 = .ok (.getfield 31, 3) := by decide +kernel
theorem dC_dead_24 : decode cC_dead 24 = .ok (.if_icmp .ge 57, 3) := by decide +kernel
theorem dC_dead_27 : decode cC_dead 27 = .ok (.aload_n 0, 1) := by decide +kernel
theorem dC_dead_28 : decode cC_dead 28 = .ok (.getfield 34, 3) := by decide +kernel
theorem dC_dead_31 : decode cC_dead 31 = .ok (.iload 5, 2) := by decide +kernel
theorem dC_dead_33 : decode cC_dead 33 = .ok (.iaload, 1) := by decide +kernel
theorem dC_dead_34 : decode cC_dead 34 = .ok (.iload_n 1, 1) := by decide +kernel
theorem dC_dead_35 : decode cC_dead 35 = .ok (.if_icmp .ne 40, 3) := by decide +kernel
theorem dC_dead_38 : decode cC_dead 38 = .ok (.aload_n 0, 1) := by decide +kernel
theorem dC_dead_39 : decode cC_dead 39 = .ok (.getfield 40, 3) := by decide +kernel
theorem dC_dead_42 : decode cC_dead 42 = .ok (.iload 5, 2) := by decide +kernel
theorem dC_dead_44 : decode cC_dead 44 = .ok (.laload, 1) := by decide +kernel
theorem dC_dead_45 : decode cC_dead 45 = .ok (.lload_n 2, 1) := by decide +kernel
theorem dC_dead_46 : decode cC_dead 46 = .ok (.ldc2_w 112, 3) := by decide +kernel
theorem dC_dead_49 : decode cC_dead 49 = .ok (.lxor, 1) := by decide +kernel
theorem dC_dead_50 : decode cC_dead 50 = .ok (.land, 1) := by decide +kernel
theorem dC_dead_51 : decode cC_dead 51 = .ok (.lconst 0, 1) := by decide +kernel
theorem dC_dead_52 : decode cC_dead 52 = .ok (.lcmp, 1) := by decide +kernel
theorem dC_dead_53 : decode cC_dead 53 = .ok (.ifCond .ne 12, 3) := by decide +kernel
theorem dC_dead_56 : decode cC_dead 56 = .ok (.iload 4, 2) := by decide +kernel
theorem dC_dead_58 : decode cC_dead 58 = .ok (.iconst 1, 1) := by decide +kernel
theorem dC_dead_59 : decode cC_dead 59 = .ok (.iload 5, 2) := by decide +kernel
theorem dC_dead_61 : decode cC_dead 61 = .ok (.ishl, 1) := by decide +kernel
theorem dC_dead_62 : decode cC_dead 62 = .ok (.ior, 1) := by decide +kernel
theorem dC_dead_63 : decode cC_dead 63 = .ok (.istore 4, 2) := by decide +kernel
theorem dC_dead_65 : decode cC_dead 65 = .ok (.lload_n 2, 1) := by decide +kernel
theorem dC_dead_66 : decode cC_dead 66 = .ok (.aload_n 0, 1) := by decide +kernel
theorem dC_dead_67 : decode cC_dead 67 = .ok (.getfield 40, 3) := by decide +kernel
theorem dC_dead_70 : decode cC_dead 70 = .ok (.iload 5, 2) := by decide +kernel
theorem dC_dead_72 : decode cC_dead 72 = .ok (.laload, 1) := by decide +kernel
theorem dC_dead_73 : decode cC_dead 73 = .ok (.lor, 1) := by decide +kernel
theorem dC_dead_74 : decode cC_dead 74 = .ok (.lstore_n 2, 1) := by decide +kernel
theorem dC_dead_75 : decode cC_dead 75 = .ok (.iinc 5 1, 3) := by decide +kernel
theorem dC_dead_78 : decode cC_dead 78 = .ok (.goto (-60), 3) := by decide +kernel
theorem dC_dead_81 : decode cC_dead 81 = .ok (.iload 4, 2) := by decide +kernel
theorem dC_dead_83 : decode cC_dead 83 = .ok (.ireturn, 1) := by decide +kernel
theorem dC_least_0 : decode cC_least 0 = .ok (.aload_n 0, 1) := by decide +kernel
theorem dC_least_1 : decode cC_least 1 = .ok (.iload_n 1, 1) := by decide +kernel
theorem dC_least_2 : decode cC_least 2 = .ok (.invokevirtual 60, 3) := by decide +kernel
theorem dC_least_5 : decode cC_least 5 = .ok (.ifCond .ne 5, 3) := by decide +kernel
theorem dC_least_8 : decode cC_least 8 = .ok (.iconst (-1), 1) := by decide +kernel
theorem dC_least_9 : decode cC_least 9 = .ok (.ireturn, 1) := by decide +kernel
theorem dC_least_10 : decode cC_least 10 = .ok (.aload_n 0, 1) := by decide +kernel
theorem dC_least_11 : decode cC_least 11 = .ok (.iload_n 1, 1) := by decide +kernel
theorem dC_least_12 : decode cC_least 12 = .ok (.invokevirtual 120, 3) := by decide +kernel
theorem dC_least_15 : decode cC_least 15 = .ok (.aload_n 0, 1) := by decide +kernel
theorem dC_least_16 : decode cC_least 16 = .ok (.getfield 53, 3) := by decide +kernel
theorem dC_least_19 : decode cC_least 19 = .ok (.iconst 0, 1) := by decide +kernel
theorem dC_least_20 : decode cC_least 20 = .ok (.aload_n 0, 1) := by decide +kernel
theorem dC_least_21 : decode cC_least 21 = .ok (.getfield 53, 3) := by decide +kernel
theorem dC_least_24 : decode cC_least 24 = .ok (.getfield 124, 3) := by decide +kernel
theorem dC_least_27 : decode cC_least 27 = .ok (.iconst 0, 1) := by decide +kernel
theorem dC_least_28 : decode cC_least 28 = .ok (.laload, 1) := by decide +kernel
theorem dC_least_29 : decode cC_least 29 = .ok (.lconst 0, 1) := by decide +kernel
theorem dC_least_30 : decode cC_least 30 = .ok (.ldc2_w 127, 3) := by decide +kernel
theorem dC_least_33 : decode cC_least 33 = .ok (.invokestatic 129, 3) := by decide +kernel
theorem dC_least_36 : decode cC_least 36 = .ok (.lstore_n 2, 1) := by decide +kernel
theorem dC_least_37 : decode cC_least 37 = .ok (.aload_n 0, 1) := by decide +kernel
theorem dC_least_38 : decode cC_least 38 = .ok (.lload_n 2, 1) := by decide +kernel
theorem dC_least_39 : decode cC_least 39 = .ok (.ldc2_w 133, 3) := by decide +kernel
theorem dC_least_42 : decode cC_least 42 = .ok (.land, 1) := by decide +kernel
theorem dC_least_43 : decode cC_least 43 = .ok (.l2i, 1) := by decide +kernel
theorem dC_least_44 : decode cC_least 44 = .ok (.putfield 57, 3) := by decide +kernel
theorem dC_least_47 : decode cC_least 47 = .ok (.lload_n 2, 1) := by decide +kernel
theorem dC_least_48 : decode cC_least 48 = .ok (.bipush 18, 2) := by decide +kernel
theorem dC_least_50 : decode cC_least 50 = .ok (.lshr, 1) := by decide +kernel
theorem dC_least_51 : decode cC_least 51 = .ok (.l2i, 1) := by decide +kernel
theorem dC_least_52 : decode cC_least 52 = .ok (.ireturn, 1) := by decide +kernel
theorem dC_gatherCandidates_0 : decode cC_gatherCandidates 0 = .ok (.iconst 0, 1) := by decide +kernel
theorem dC_gatherCandidates_1 : decode cC_gatherCandidates 1 = .ok (.istore_n 2, 1) := by decide +kernel
theorem dC_gatherCandidates_2 : decode cC_gatherCandidates 2 = .ok (.iconst 0, 1) := by decide +kernel
theorem dC_gatherCandidates_3 : decode cC_gatherCandidates 3 = .ok (.istore_n 3, 1) := by decide +kernel
theorem dC_gatherCandidates_4 : decode cC_gatherCandidates 4 = .ok (.iload_n 3, 1) := by decide +kernel
theorem dC_gatherCandidates_5 : decode cC_gatherCandidates 5 = .ok (.aload_n 0, 1) := by decide +kernel
theorem dC_gatherCandidates_6 : decode cC_gatherCandidates 6 = .ok (.getfield 31, 3) := by decide +kernel
theorem dC_gatherCandidates_9 : decode cC_gatherCandidates 9 = .ok (.if_icmp .ge 51, 3) := by decide +kernel
theorem dC_gatherCandidates_12 : decode cC_gatherCandidates 12 = .ok (.aload_n 0, 1) := by decide +kernel
theorem dC_gatherCandidates_13 : decode cC_gatherCandidates 13 = .ok (.getfield 34, 3) := by decide +kernel
theorem dC_gatherCandidates_16 : decode cC_gatherCandidates 16 = .ok (.iload_n 3, 1) := by decide +kernel
theorem dC_gatherCandidates_17 : decode cC_gatherCandidates 17 = .ok (.iaload, 1) := by decide +kernel
theorem dC_gatherCandidates_18 : decode cC_gatherCandidates 18 = .ok (.iload_n 1, 1) := by decide +kernel
theorem dC_gatherCandidates_19 : decode cC_gatherCandidates 19 = .ok (.if_icmp .ne 35, 3) := by decide +kernel
theorem dC_gatherCandidates_22 : decode cC_gatherCandidates 22 = .ok (.aload_n 0, 1) := by decide +kernel
theorem dC_gatherCandidates_23 : decode cC_gatherCandidates 23 = .ok (.getfield 53, 3) := by decide +kernel
theorem dC_gatherCandidates_26 : decode cC_gatherCandidates 26 = .ok (.getfield 148, 3) := by decide +kernel
theorem dC_gatherCandidates_29 : decode cC_gatherCandidates 29 = .ok (.iload_n 2, 1) := by decide +kernel
theorem dC_gatherCandidates_30 : decode cC_gatherCandidates 30 = .ok (.aload_n 0, 1) := by decide +kernel
theorem dC_gatherCandidates_31 : decode cC_gatherCandidates 31 = .ok (.getfield 40, 3) := by decide +kernel
theorem dC_gatherCandidates_34 : decode cC_gatherCandidates 34 = .ok (.iload_n 3, 1) := by decide +kernel
theorem dC_gatherCandidates_35 : decode cC_gatherCandidates 35 = .ok (.laload, 1) := by decide +kernel
theorem dC_gatherCandidates_36 : decode cC_gatherCandidates 36 = .ok (.lastore, 1) := by decide +kernel
theorem dC_gatherCandidates_37 : decode cC_gatherCandidates 37 = .ok (.aload_n 0, 1) := by decide +kernel
theorem dC_gatherCandidates_38 : decode cC_gatherCandidates 38 = .ok (.getfield 53, 3) := by decide +kernel
theorem dC_gatherCandidates_41 : decode cC_gatherCandidates 41 = .ok (.getfield 151, 3) := by decide +kernel
theorem dC_gatherCandidates_44 : decode cC_gatherCandidates 44 = .ok (.iload_n 2, 1) := by decide +kernel
theorem dC_gatherCandidates_45 : decode cC_gatherCandidates 45 = .ok (.aload_n 0, 1) := by decide +kernel
theorem dC_gatherCandidates_46 : decode cC_gatherCandidates 46 = .ok (.iload_n 3, 1) := by decide +kernel
theorem dC_gatherCandidates_47 : decode cC_gatherCandidates 47 = .ok (.invokevirtual 154, 3) := by decide +kernel
theorem dC_gatherCandidates_50 : decode cC_gatherCandidates 50 = .ok (.lastore, 1) := by decide +kernel
theorem dC_gatherCandidates_51 : decode cC_gatherCandidates 51 = .ok (.iinc 2 1, 3) := by decide +kernel
theorem dC_gatherCandidates_54 : decode cC_gatherCandidates 54 = .ok (.iinc 3 1, 3) := by decide +kernel
theorem dC_gatherCandidates_57 : decode cC_gatherCandidates 57 = .ok (.goto (-53), 3) := by decide +kernel
theorem dC_gatherCandidates_60 : decode cC_gatherCandidates 60 = .ok (.aload_n 0, 1) := by decide +kernel
theorem dC_gatherCandidates_61 : decode cC_gatherCandidates 61 = .ok (.getfield 53, 3) := by decide +kernel
theorem dC_gatherCandidates_64 : decode cC_gatherCandidates 64 = .ok (.iload_n 2, 1) := by decide +kernel
theorem dC_gatherCandidates_65 : decode cC_gatherCandidates 65 = .ok (.putfield 157, 3) := by decide +kernel
theorem dC_gatherCandidates_68 : decode cC_gatherCandidates 68 = .ok (.aload_n 0, 1) := by decide +kernel
theorem dC_gatherCandidates_69 : decode cC_gatherCandidates 69 = .ok (.getfield 53, 3) := by decide +kernel
theorem dC_gatherCandidates_72 : decode cC_gatherCandidates 72 = .ok (.getfield 124, 3) := by decide +kernel
theorem dC_gatherCandidates_75 : decode cC_gatherCandidates 75 = .ok (.iload_n 2, 1) := by decide +kernel
theorem dC_gatherCandidates_76 : decode cC_gatherCandidates 76 = .ok (.lconst 0, 1) := by decide +kernel
theorem dC_gatherCandidates_77 : decode cC_gatherCandidates 77 = .ok (.lastore, 1) := by decide +kernel
theorem dC_gatherCandidates_78 : decode cC_gatherCandidates 78 = .ok (.iload_n 2, 1) := by decide +kernel
theorem dC_gatherCandidates_79 : decode cC_gatherCandidates 79 = .ok (.iconst 1, 1) := by decide +kernel
theorem dC_gatherCandidates_80 : decode cC_gatherCandidates 80 = .ok (.isub, 1) := by decide +kernel
theorem dC_gatherCandidates_81 : decode cC_gatherCandidates 81 = .ok (.istore_n 3, 1) := by decide +kernel
theorem dC_gatherCandidates_82 : decode cC_gatherCandidates 82 = .ok (.iload_n 3, 1) := by decide +kernel
theorem dC_gatherCandidates_83 : decode cC_gatherCandidates 83 = .ok (.ifCond .lt 39, 3) := by decide +kernel
theorem dC_gatherCandidates_86 : decode cC_gatherCandidates 86 = .ok (.aload_n 0, 1) := by decide +kernel
theorem dC_gatherCandidates_87 : decode cC_gatherCandidates 87 = .ok (.getfield 53, 3) := by decide +kernel
theorem dC_gatherCandidates_90 : decode cC_gatherCandidates 90 = .ok (.getfield 124, 3) := by decide +kernel
theorem dC_gatherCandidates_93 : decode cC_gatherCandidates 93 = .ok (.iload_n 3, 1) := by decide +kernel
theorem dC_gatherCandidates_94 : decode cC_gatherCandidates 94 = .ok (.aload_n 0, 1) := by decide +kernel
theorem dC_gatherCandidates_95 : decode cC_gatherCandidates 95 = .ok (.getfield 53, 3) := by decide +kernel
theorem dC_gatherCandidates_98 : decode cC_gatherCandidates 98 = .ok (.getfield 124, 3) := by decide +kernel
theorem dC_gatherCandidates_101 : decode cC_gatherCandidates 101 = .ok (.iload_n 3, 1) := by decide +kernel
theorem dC_gatherCandidates_102 : decode cC_gatherCandidates 102 = .ok (.iconst 1, 1) := by decide +kernel
theorem dC_gatherCandidates_103 : decode cC_gatherCandidates 103 = .ok (.iadd, 1) := by decide +kernel
theorem dC_gatherCandidates_104 : decode cC_gatherCandidates 104 = .ok (.laload, 1) := by decide +kernel
theorem dC_gatherCandidates_105 : decode cC_gatherCandidates 105 = .ok (.aload_n 0, 1) := by decide +kernel
theorem dC_gatherCandidates_106 : decode cC_gatherCandidates 106 = .ok (.getfield 53, 3) := by decide +kernel
theorem dC_gatherCandidates_109 : decode cC_gatherCandidates 109 = .ok (.getfield 148, 3) := by decide +kernel
theorem dC_gatherCandidates_112 : decode cC_gatherCandidates 112 = .ok (.iload_n 3, 1) := by decide +kernel
theorem dC_gatherCandidates_113 : decode cC_gatherCandidates 113 = .ok (.laload, 1) := by decide +kernel
theorem dC_gatherCandidates_114 : decode cC_gatherCandidates 114 = .ok (.lor, 1) := by decide +kernel
theorem dC_gatherCandidates_115 : decode cC_gatherCandidates 115 = .ok (.lastore, 1) := by decide +kernel
theorem dC_gatherCandidates_116 : decode cC_gatherCandidates 116 = .ok (.iinc 3 (-1), 3) := by decide +kernel
theorem dC_gatherCandidates_119 : decode cC_gatherCandidates 119 = .ok (.goto (-37), 3) := by decide +kernel
theorem dC_gatherCandidates_122 : decode cC_gatherCandidates 122 = .ok (.return_, 1) := by decide +kernel
theorem dC_weightOf_0 : decode cC_weightOf 0 = .ok (.aload_n 0, 1) := by decide +kernel
theorem dC_weightOf_1 : decode cC_weightOf 1 = .ok (.getfield 37, 3) := by decide +kernel
theorem dC_weightOf_4 : decode cC_weightOf 4 = .ok (.iload_n 1, 1) := by decide +kernel
theorem dC_weightOf_5 : decode cC_weightOf 5 = .ok (.iaload, 1) := by decide +kernel
theorem dC_weightOf_6 : decode cC_weightOf 6 = .ok (.i2l, 1) := by decide +kernel
theorem dC_weightOf_7 : decode cC_weightOf 7 = .ok (.bipush 18, 2) := by decide +kernel
theorem dC_weightOf_9 : decode cC_weightOf 9 = .ok (.lshl, 1) := by decide +kernel
theorem dC_weightOf_10 : decode cC_weightOf 10 = .ok (.ldc2_w 160, 3) := by decide +kernel
theorem dC_weightOf_13 : decode cC_weightOf 13 = .ok (.lor, 1) := by decide +kernel
theorem dC_weightOf_14 : decode cC_weightOf 14 = .ok (.lconst 1, 1) := by decide +kernel
theorem dC_weightOf_15 : decode cC_weightOf 15 = .ok (.iload_n 1, 1) := by decide +kernel
theorem dC_weightOf_16 : decode cC_weightOf 16 = .ok (.lshl, 1) := by decide +kernel
theorem dC_weightOf_17 : decode cC_weightOf 17 = .ok (.lor, 1) := by decide +kernel
theorem dC_weightOf_18 : decode cC_weightOf 18 = .ok (.lreturn, 1) := by decide +kernel
theorem dC_lightest_0 : decode cC_lightest 0 = .ok (.lload 4, 2) := by decide +kernel
theorem dC_lightest_2 : decode cC_lightest 2 = .ok (.lload 6, 2) := by decide +kernel
theorem dC_lightest_4 : decode cC_lightest 4 = .ok (.lcmp, 1) := by decide +kernel
theorem dC_lightest_5 : decode cC_lightest 5 = .ok (.ifCond .lt 6, 3) := by decide +kernel
theorem dC_lightest_8 : decode cC_lightest 8 = .ok (.lload 6, 2) := by decide +kernel
theorem dC_lightest_10 : decode cC_lightest 10 = .ok (.lreturn, 1) := by decide +kernel
theorem dC_lightest_11 : decode cC_lightest 11 = .ok (.lload_n 2, 1) := by decide +kernel
theorem dC_lightest_12 : decode cC_lightest 12 = .ok (.lconst 0, 1) := by decide +kernel
theorem dC_lightest_13 : decode cC_lightest 13 = .ok (.lcmp, 1) := by decide +kernel
theorem dC_lightest_14 : decode cC_lightest 14 = .ok (.ifCond .ne 6, 3) := by decide +kernel
theorem dC_lightest_17 : decode cC_lightest 17 = .ok (.lload 4, 2) := by decide +kernel
theorem dC_lightest_19 : decode cC_lightest 19 = .ok (.lreturn, 1) := by decide +kernel
theorem dC_lightest_20 : decode cC_lightest 20 = .ok (.iload_n 1, 1) := by decide +kernel
theorem dC_lightest_21 : decode cC_lightest 21 = .ok (.aload_n 0, 1) := by decide +kernel
theorem dC_lightest_22 : decode cC_lightest 22 = .ok (.getfield 157, 3) := by decide +kernel
theorem dC_lightest_25 : decode cC_lightest 25 = .ok (.if_icmp .ge 20, 3) := by decide +kernel
theorem dC_lightest_28 : decode cC_lightest 28 = .ok (.lload_n 2, 1) := by decide +kernel
theorem dC_lightest_29 : decode cC_lightest 29 = .ok (.aload_n 0, 1) := by decide +kernel
theorem dC_lightest_30 : decode cC_lightest 30 = .ok (.getfield 124, 3) := by decide +kernel
theorem dC_lightest_33 : decode cC_lightest 33 = .ok (.iload_n 1, 1) := by decide +kernel
theorem dC_lightest_34 : decode cC_lightest 34 = .ok (.laload, 1) := by decide +kernel
theorem dC_lightest_35 : decode cC_lightest 35 = .ok (.ldc2_w 112, 3) := by decide +kernel
theorem dC_lightest_38 : decode cC_lightest 38 = .ok (.lxor, 1) := by decide +kernel
theorem dC_lightest_39 : decode cC_lightest 39 = .ok (.land, 1) := by decide +kernel
theorem dC_lightest_40 : decode cC_lightest 40 = .ok (.lconst 0, 1) := by decide +kernel
theorem dC_lightest_41 : decode cC_lightest 41 = .ok (.lcmp, 1) := by decide +kernel
theorem dC_lightest_42 : decode cC_lightest 42 = .ok (.ifCond .eq 6, 3) := by decide +kernel
theorem dC_lightest_45 : decode cC_lightest 45 = .ok (.lload 6, 2) := by decide +kernel
theorem dC_lightest_47 : decode cC_lightest 47 = .ok (.lreturn, 1) := by decide +kernel
theorem dC_lightest_48 : decode cC_lightest 48 = .ok (.lload 6, 2) := by decide +kernel
theorem dC_lightest_50 : decode cC_lightest 50 = .ok (.lstore 8, 2) := by decide +kernel
theorem dC_lightest_52 : decode cC_lightest 52 = .ok (.lload_n 2, 1) := by decide +kernel
theorem dC_lightest_53 : decode cC_lightest 53 = .ok (.aload_n 0, 1) := by decide +kernel
theorem dC_lightest_54 : decode cC_lightest 54 = .ok (.getfield 148, 3) := by decide +kernel
theorem dC_lightest_57 : decode cC_lightest 57 = .ok (.iload_n 1, 1) := by decide +kernel
theorem dC_lightest_58 : decode cC_lightest 58 = .ok (.laload, 1) := by decide +kernel
theorem dC_lightest_59 : decode cC_lightest 59 = .ok (.land, 1) := by decide +kernel
theorem dC_lightest_60 : decode cC_lightest 60 = .ok (.lconst 0, 1) := by decide +kernel
theorem dC_lightest_61 : decode cC_lightest 61 = .ok (.lcmp, 1) := by decide +kernel
theorem dC_lightest_62 : decode cC_lightest 62 = .ok (.ifCond .eq 35, 3) := by decide +kernel
theorem dC_lightest_65 : decode cC_lightest 65 = .ok (.aload_n 0, 1) := by decide +kernel
theorem dC_lightest_66 : decode cC_lightest 66 = .ok (.iload_n 1, 1) := by decide +kernel
theorem dC_lightest_67 : decode cC_lightest 67 = .ok (.iconst 1, 1) := by decide +kernel
theorem dC_lightest_68 : decode cC_lightest 68 = .ok (.iadd, 1) := by decide +kernel
theorem dC_lightest_69 : decode cC_lightest 69 = .ok (.lload_n 2, 1) := by decide +kernel
theorem dC_lightest_70 : decode cC_lightest 70 = .ok (.aload_n 0, 1) := by decide +kernel
theorem dC_lightest_71 : decode cC_lightest 71 = .ok (.getfield 148, 3) := by decide +kernel
theorem dC_lightest_74 : decode cC_lightest 74 = .ok (.iload_n 1, 1) := by decide +kernel
theorem dC_lightest_75 : decode cC_lightest 75 = .ok (.laload, 1) := by decide +kernel
theorem dC_lightest_76 : decode cC_lightest 76 = .ok (.ldc2_w 112, 3) := by decide +kernel
theorem dC_lightest_79 : decode cC_lightest 79 = .ok (.lxor, 1) := by decide +kernel
theorem dC_lightest_80 : decode cC_lightest 80 = .ok (.land, 1) := by decide +kernel
theorem dC_lightest_81 : decode cC_lightest 81 = .ok (.lload 4, 2) := by decide +kernel
theorem dC_lightest_83 : decode cC_lightest 83 = .ok (.aload_n 0, 1) := by decide +kernel
theorem dC_lightest_84 : decode cC_lightest 84 = .ok (.getfield 151, 3) := by decide +kernel
theorem dC_lightest_87 : decode cC_lightest 87 = .ok (.iload_n 1, 1) := by decide +kernel
theorem dC_lightest_88 : decode cC_lightest 88 = .ok (.laload, 1) := by decide +kernel
theorem dC_lightest_89 : decode cC_lightest 89 = .ok (.ladd, 1) := by decide +kernel
theorem dC_lightest_90 : decode cC_lightest 90 = .ok (.lload 8, 2) := by decide +kernel
theorem dC_lightest_92 : decode cC_lightest 92 = .ok (.invokestatic 129, 3) := by decide +kernel
theorem dC_lightest_95 : decode cC_lightest 95 = .ok (.lstore 8, 2) := by decide +kernel
theorem dC_lightest_97 : decode cC_lightest 97 = .ok (.aload_n 0, 1) := by decide +kernel
theorem dC_lightest_98 : decode cC_lightest 98 = .ok (.iload_n 1, 1) := by decide +kernel
theorem dC_lightest_99 : decode cC_lightest 99 = .ok (.iconst 1, 1) := by decide +kernel
theorem dC_lightest_100 : decode cC_lightest 100 = .ok (.iadd, 1) := by decide +kernel
theorem dC_lightest_101 : decode cC_lightest 101 = .ok (.lload_n 2, 1) := by decide +kernel
theorem dC_lightest_102 : decode cC_lightest 102 = .ok (.lload 4, 2) := by decide +kernel
theorem dC_lightest_104 : decode cC_lightest 104 = .ok (.lload 8, 2) := by decide +kernel
theorem dC_lightest_106 : decode cC_lightest 106 = .ok (.invokestatic 129, 3) := by decide +kernel
theorem dC_lightest_109 : decode cC_lightest 109 = .ok (.lreturn, 1) := by decide +kernel
theorem dC_chosen_0 : decode cC_chosen 0 = .ok (.aload_n 0, 1) := by decide +kernel
theorem dC_chosen_1 : decode cC_chosen 1 = .ok (.getfield 57, 3) := by decide +kernel
theorem dC_chosen_4 : decode cC_chosen 4 = .ok (.ireturn, 1) := by decide +kernel
theorem dC_about_0 : decode cC_about 0 = .ok (.aload_n 0, 1) := by decide +kernel
theorem dC_about_1 : decode cC_about 1 = .ok (.iload_n 1, 1) := by decide +kernel
theorem dC_about_2 : decode cC_about 2 = .ok (.invokevirtual 76, 3) := by decide +kernel
theorem dC_about_5 : decode cC_about 5 = .ok (.ifCond .ne 5, 3) := by decide +kernel
theorem dC_about_8 : decode cC_about 8 = .ok (.iconst (-1), 1) := by decide +kernel
theorem dC_about_9 : decode cC_about 9 = .ok (.ireturn, 1) := by decide +kernel
theorem dC_about_10 : decode cC_about 10 = .ok (.iload_n 2, 1) := by decide +kernel
theorem dC_about_11 : decode cC_about 11 = .ok (.tableswitch 49 0 2 #[25, 32, 39], 25) := by decide +kernel
theorem dC_about_36 : decode cC_about 36 = .ok (.aload_n 0, 1) := by decide +kernel
theorem dC_about_37 : decode cC_about 37 = .ok (.getfield 34, 3) := by decide +kernel
theorem dC_about_40 : decode cC_about 40 = .ok (.iload_n 1, 1) := by decide +kernel
theorem dC_about_41 : decode cC_about 41 = .ok (.iaload, 1) := by decide +kernel
theorem dC_about_42 : decode cC_about 42 = .ok (.ireturn, 1) := by decide +kernel
theorem dC_about_43 : decode cC_about 43 = .ok (.aload_n 0, 1) := by decide +kernel
theorem dC_about_44 : decode cC_about 44 = .ok (.getfield 37, 3) := by decide +kernel
theorem dC_about_47 : decode cC_about 47 = .ok (.iload_n 1, 1) := by decide +kernel
theorem dC_about_48 : decode cC_about 48 = .ok (.iaload, 1) := by decide +kernel
theorem dC_about_49 : decode cC_about 49 = .ok (.ireturn, 1) := by decide +kernel
theorem dC_about_50 : decode cC_about 50 = .ok (.aload_n 0, 1) := by decide +kernel
theorem dC_about_51 : decode cC_about 51 = .ok (.getfield 40, 3) := by decide +kernel
theorem dC_about_54 : decode cC_about 54 = .ok (.iload_n 1, 1) := by decide +kernel
theorem dC_about_55 : decode cC_about 55 = .ok (.laload, 1) := by decide +kernel
theorem dC_about_56 : decode cC_about 56 = .ok (.invokestatic 114, 3) := by decide +kernel
theorem dC_about_59 : decode cC_about 59 = .ok (.ireturn, 1) := by decide +kernel
theorem dC_about_60 : decode cC_about 60 = .ok (.iconst (-1), 1) := by decide +kernel
theorem dC_about_61 : decode cC_about 61 = .ok (.ireturn, 1) := by decide +kernel
