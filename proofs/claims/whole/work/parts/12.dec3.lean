theorem dM_hangsOn_9 : decode cM_hangsOn 9 = .ok (.if_icmp .ge 97, 3) := by decide +kernel
theorem dM_hangsOn_12 : decode cM_hangsOn 12 = .ok (.aload_n 0, 1) := by decide +kernel
theorem dM_hangsOn_13 : decode cM_hangsOn 13 = .ok (.getfield 71, 3) := by decide +kernel
theorem dM_hangsOn_16 : decode cM_hangsOn 16 = .ok (.iload 4, 2) := by decide +kernel
theorem dM_hangsOn_18 : decode cM_hangsOn 18 = .ok (.invokestatic 36, 3) := by decide +kernel
theorem dM_hangsOn_21 : decode cM_hangsOn 21 = .ok (.ifCond .eq 79, 3) := by decide +kernel
theorem dM_hangsOn_24 : decode cM_hangsOn 24 = .ok (.aload_n 0, 1) := by decide +kernel
theorem dM_hangsOn_25 : decode cM_hangsOn 25 = .ok (.getfield 23, 3) := by decide +kernel
theorem dM_hangsOn_28 : decode cM_hangsOn 28 = .ok (.iload 4, 2) := by decide +kernel
theorem dM_hangsOn_30 : decode cM_hangsOn 30 = .ok (.laload, 1) := by decide +kernel
theorem dM_hangsOn_31 : decode cM_hangsOn 31 = .ok (.iload_n 1, 1) := by decide +kernel
theorem dM_hangsOn_32 : decode cM_hangsOn 32 = .ok (.invokestatic 36, 3) := by decide +kernel
theorem dM_hangsOn_35 : decode cM_hangsOn 35 = .ok (.ifCond .eq 12, 3) := by decide +kernel
theorem dM_hangsOn_38 : decode cM_hangsOn 38 = .ok (.iload 4, 2) := by decide +kernel
theorem dM_hangsOn_40 : decode cM_hangsOn 40 = .ok (.iload_n 1, 1) := by decide +kernel
theorem dM_hangsOn_41 : decode cM_hangsOn 41 = .ok (.if_icmp .eq 6, 3) := by decide +kernel
theorem dM_hangsOn_44 : decode cM_hangsOn 44 = .ok (.goto 56, 3) := by decide +kernel
theorem dM_hangsOn_47 : decode cM_hangsOn 47 = .ok (.iconst 0, 1) := by decide +kernel
theorem dM_hangsOn_48 : decode cM_hangsOn 48 = .ok (.istore 5, 2) := by decide +kernel
theorem dM_hangsOn_50 : decode cM_hangsOn 50 = .ok (.iload 5, 2) := by decide +kernel
theorem dM_hangsOn_52 : decode cM_hangsOn 52 = .ok (.bipush 40, 2) := by decide +kernel
theorem dM_hangsOn_54 : decode cM_hangsOn 54 = .ok (.if_icmp .ge 46, 3) := by decide +kernel
theorem dM_hangsOn_57 : decode cM_hangsOn 57 = .ok (.aload_n 0, 1) := by decide +kernel
theorem dM_hangsOn_58 : decode cM_hangsOn 58 = .ok (.getfield 16, 3) := by decide +kernel
theorem dM_hangsOn_61 : decode cM_hangsOn 61 = .ok (.iload 4, 2) := by decide +kernel
theorem dM_hangsOn_63 : decode cM_hangsOn 63 = .ok (.laload, 1) := by decide +kernel
theorem dM_hangsOn_64 : decode cM_hangsOn 64 = .ok (.iload 5, 2) := by decide +kernel
theorem dM_hangsOn_66 : decode cM_hangsOn 66 = .ok (.invokestatic 36, 3) := by decide +kernel
theorem dM_hangsOn_69 : decode cM_hangsOn 69 = .ok (.ifCond .eq 25, 3) := by decide +kernel
theorem dM_hangsOn_72 : decode cM_hangsOn 72 = .ok (.aload_n 0, 1) := by decide +kernel
theorem dM_hangsOn_73 : decode cM_hangsOn 73 = .ok (.getfield 23, 3) := by decide +kernel
theorem dM_hangsOn_76 : decode cM_hangsOn 76 = .ok (.iload 5, 2) := by decide +kernel
theorem dM_hangsOn_78 : decode cM_hangsOn 78 = .ok (.laload, 1) := by decide +kernel
theorem dM_hangsOn_79 : decode cM_hangsOn 79 = .ok (.iload_n 1, 1) := by decide +kernel
theorem dM_hangsOn_80 : decode cM_hangsOn 80 = .ok (.invokestatic 36, 3) := by decide +kernel
theorem dM_hangsOn_83 : decode cM_hangsOn 83 = .ok (.ifCond .eq 11, 3) := by decide +kernel
theorem dM_hangsOn_86 : decode cM_hangsOn 86 = .ok (.lload_n 2, 1) := by decide +kernel
theorem dM_hangsOn_87 : decode cM_hangsOn 87 = .ok (.iload 4, 2) := by decide +kernel
theorem dM_hangsOn_89 : decode cM_hangsOn 89 = .ok (.invokestatic 48, 3) := by decide +kernel
theorem dM_hangsOn_92 : decode cM_hangsOn 92 = .ok (.lor, 1) := by decide +kernel
theorem dM_hangsOn_93 : decode cM_hangsOn 93 = .ok (.lstore_n 2, 1) := by decide +kernel
theorem dM_hangsOn_94 : decode cM_hangsOn 94 = .ok (.iinc 5 1, 3) := by decide +kernel
theorem dM_hangsOn_97 : decode cM_hangsOn 97 = .ok (.goto (-47), 3) := by decide +kernel
theorem dM_hangsOn_100 : decode cM_hangsOn 100 = .ok (.iinc 4 1, 3) := by decide +kernel
theorem dM_hangsOn_103 : decode cM_hangsOn 103 = .ok (.goto (-98), 3) := by decide +kernel
theorem dM_hangsOn_106 : decode cM_hangsOn 106 = .ok (.lload_n 2, 1) := by decide +kernel
theorem dM_hangsOn_107 : decode cM_hangsOn 107 = .ok (.lreturn, 1) := by decide +kernel
theorem dM_under_0 : decode cM_under 0 = .ok (.lconst 0, 1) := by decide +kernel
theorem dM_under_1 : decode cM_under 1 = .ok (.lstore_n 2, 1) := by decide +kernel
theorem dM_under_2 : decode cM_under 2 = .ok (.iconst 0, 1) := by decide +kernel
theorem dM_under_3 : decode cM_under 3 = .ok (.istore 4, 2) := by decide +kernel
theorem dM_under_5 : decode cM_under 5 = .ok (.iload 4, 2) := by decide +kernel
theorem dM_under_7 : decode cM_under 7 = .ok (.bipush 40, 2) := by decide +kernel
theorem dM_under_9 : decode cM_under 9 = .ok (.if_icmp .ge 31, 3) := by decide +kernel
theorem dM_under_12 : decode cM_under 12 = .ok (.aload_n 0, 1) := by decide +kernel
theorem dM_under_13 : decode cM_under 13 = .ok (.getfield 20, 3) := by decide +kernel
theorem dM_under_16 : decode cM_under 16 = .ok (.iload 4, 2) := by decide +kernel
theorem dM_under_18 : decode cM_under 18 = .ok (.laload, 1) := by decide +kernel
theorem dM_under_19 : decode cM_under 19 = .ok (.iload_n 1, 1) := by decide +kernel
theorem dM_under_20 : decode cM_under 20 = .ok (.invokestatic 36, 3) := by decide +kernel
theorem dM_under_23 : decode cM_under 23 = .ok (.ifCond .eq 11, 3) := by decide +kernel
theorem dM_under_26 : decode cM_under 26 = .ok (.lload_n 2, 1) := by decide +kernel
theorem dM_under_27 : decode cM_under 27 = .ok (.iload 4, 2) := by decide +kernel
theorem dM_under_29 : decode cM_under 29 = .ok (.invokestatic 48, 3) := by decide +kernel
theorem dM_under_32 : decode cM_under 32 = .ok (.lor, 1) := by decide +kernel
theorem dM_under_33 : decode cM_under 33 = .ok (.lstore_n 2, 1) := by decide +kernel
theorem dM_under_34 : decode cM_under 34 = .ok (.iinc 4 1, 3) := by decide +kernel
theorem dM_under_37 : decode cM_under 37 = .ok (.goto (-32), 3) := by decide +kernel
theorem dM_under_40 : decode cM_under 40 = .ok (.lload_n 2, 1) := by decide +kernel
theorem dM_under_41 : decode cM_under 41 = .ok (.lreturn, 1) := by decide +kernel
theorem dM_depth_0 : decode cM_depth 0 = .ok (.aload_n 0, 1) := by decide +kernel
theorem dM_depth_1 : decode cM_depth 1 = .ok (.iconst 0, 1) := by decide +kernel
theorem dM_depth_2 : decode cM_depth 2 = .ok (.putfield 32, 3) := by decide +kernel
theorem dM_depth_5 : decode cM_depth 5 = .ok (.aload_n 0, 1) := by decide +kernel
theorem dM_depth_6 : decode cM_depth 6 = .ok (.invokevirtual 86, 3) := by decide +kernel
theorem dM_depth_9 : decode cM_depth 9 = .ok (.iload_n 1, 1) := by decide +kernel
theorem dM_depth_10 : decode cM_depth 10 = .ok (.invokestatic 40, 3) := by decide +kernel
theorem dM_depth_13 : decode cM_depth 13 = .ok (.ifCond .eq 22, 3) := by decide +kernel
theorem dM_depth_16 : decode cM_depth 16 = .ok (.aload_n 0, 1) := by decide +kernel
theorem dM_depth_17 : decode cM_depth 17 = .ok (.getfield 64, 3) := by decide +kernel
theorem dM_depth_20 : decode cM_depth 20 = .ok (.iload_n 1, 1) := by decide +kernel
theorem dM_depth_21 : decode cM_depth 21 = .ok (.invokestatic 36, 3) := by decide +kernel
theorem dM_depth_24 : decode cM_depth 24 = .ok (.ifCond .eq 11, 3) := by decide +kernel
theorem dM_depth_27 : decode cM_depth 27 = .ok (.aload_n 0, 1) := by decide +kernel
theorem dM_depth_28 : decode cM_depth 28 = .ok (.iload_n 1, 1) := by decide +kernel
theorem dM_depth_29 : decode cM_depth 29 = .ok (.invokevirtual 93, 3) := by decide +kernel
theorem dM_depth_32 : decode cM_depth 32 = .ok (.goto 4, 3) := by decide +kernel
theorem dM_depth_35 : decode cM_depth 35 = .ok (.iconst (-1), 1) := by decide +kernel
theorem dM_depth_36 : decode cM_depth 36 = .ok (.ireturn, 1) := by decide +kernel
theorem dM_inner_0 : decode cM_inner 0 = .ok (.aload_n 0, 1) := by decide +kernel
theorem dM_inner_1 : decode cM_inner 1 = .ok (.invokevirtual 86, 3) := by decide +kernel
theorem dM_inner_4 : decode cM_inner 4 = .ok (.iconst (-1), 1) := by decide +kernel
theorem dM_inner_5 : decode cM_inner 5 = .ok (.istore_n 2, 1) := by decide +kernel
theorem dM_inner_6 : decode cM_inner 6 = .ok (.iconst 0, 1) := by decide +kernel
theorem dM_inner_7 : decode cM_inner 7 = .ok (.istore_n 3, 1) := by decide +kernel
theorem dM_inner_8 : decode cM_inner 8 = .ok (.iload_n 3, 1) := by decide +kernel
theorem dM_inner_9 : decode cM_inner 9 = .ok (.bipush 40, 2) := by decide +kernel
theorem dM_inner_11 : decode cM_inner 11 = .ok (.if_icmp .ge 57, 3) := by decide +kernel
theorem dM_inner_14 : decode cM_inner 14 = .ok (.iload_n 1, 1) := by decide +kernel
theorem dM_inner_15 : decode cM_inner 15 = .ok (.invokestatic 40, 3) := by decide +kernel
theorem dM_inner_18 : decode cM_inner 18 = .ok (.ifCond .eq 50, 3) := by decide +kernel
theorem dM_inner_21 : decode cM_inner 21 = .ok (.aload_n 0, 1) := by decide +kernel
theorem dM_inner_22 : decode cM_inner 22 = .ok (.getfield 26, 3) := by decide +kernel
theorem dM_inner_25 : decode cM_inner 25 = .ok (.iload_n 3, 1) := by decide +kernel
theorem dM_inner_26 : decode cM_inner 26 = .ok (.laload, 1) := by decide +kernel
theorem dM_inner_27 : decode cM_inner 27 = .ok (.iload_n 1, 1) := by decide +kernel
theorem dM_inner_28 : decode cM_inner 28 = .ok (.invokestatic 36, 3) := by decide +kernel
theorem dM_inner_31 : decode cM_inner 31 = .ok (.ifCond .eq 31, 3) := by decide +kernel
theorem dM_inner_34 : decode cM_inner 34 = .ok (.iload_n 2, 1) := by decide +kernel
theorem dM_inner_35 : decode cM_inner 35 = .ok (.iconst (-1), 1) := by decide +kernel
theorem dM_inner_36 : decode cM_inner 36 = .ok (.if_icmp .eq 24, 3) := by decide +kernel
theorem dM_inner_39 : decode cM_inner 39 = .ok (.aload_n 0, 1) := by decide +kernel
theorem dM_inner_40 : decode cM_inner 40 = .ok (.getfield 26, 3) := by decide +kernel
theorem dM_inner_43 : decode cM_inner 43 = .ok (.iload_n 3, 1) := by decide +kernel
theorem dM_inner_44 : decode cM_inner 44 = .ok (.laload, 1) := by decide +kernel
theorem dM_inner_45 : decode cM_inner 45 = .ok (.invokestatic 89, 3) := by decide +kernel
theorem dM_inner_48 : decode cM_inner 48 = .ok (.aload_n 0, 1) := by decide +kernel
theorem dM_inner_49 : decode cM_inner 49 = .ok (.getfield 26, 3) := by decide +kernel
theorem dM_inner_52 : decode cM_inner 52 = .ok (.iload_n 2, 1) := by decide +kernel
theorem dM_inner_53 : decode cM_inner 53 = .ok (.laload, 1) := by decide +kernel
theorem dM_inner_54 : decode cM_inner 54 = .ok (.invokestatic 89, 3) := by decide +kernel
theorem dM_inner_57 : decode cM_inner 57 = .ok (.if_icmp .ge 5, 3) := by decide +kernel
theorem dM_inner_60 : decode cM_inner 60 = .ok (.iload_n 3, 1) := by decide +kernel
theorem dM_inner_61 : decode cM_inner 61 = .ok (.istore_n 2, 1) := by decide +kernel
theorem dM_inner_62 : decode cM_inner 62 = .ok (.iinc 3 1, 3) := by decide +kernel
theorem dM_inner_65 : decode cM_inner 65 = .ok (.goto (-57), 3) := by decide +kernel
theorem dM_inner_68 : decode cM_inner 68 = .ok (.aload_n 0, 1) := by decide +kernel
theorem dM_inner_69 : decode cM_inner 69 = .ok (.iload_n 2, 1) := by decide +kernel
theorem dM_inner_70 : decode cM_inner 70 = .ok (.iconst (-1), 1) := by decide +kernel
theorem dM_inner_71 : decode cM_inner 71 = .ok (.if_icmp .ne 7, 3) := by decide +kernel
theorem dM_inner_74 : decode cM_inner 74 = .ok (.iconst 1, 1) := by decide +kernel
theorem dM_inner_75 : decode cM_inner 75 = .ok (.goto 4, 3) := by decide +kernel
theorem dM_inner_78 : decode cM_inner 78 = .ok (.iconst 0, 1) := by decide +kernel
theorem dM_inner_79 : decode cM_inner 79 = .ok (.putfield 32, 3) := by decide +kernel
theorem dM_inner_82 : decode cM_inner 82 = .ok (.aload_n 0, 1) := by decide +kernel
theorem dM_inner_83 : decode cM_inner 83 = .ok (.getfield 32, 3) := by decide +kernel
theorem dM_inner_86 : decode cM_inner 86 = .ok (.ifCond .le 7, 3) := by decide +kernel
theorem dM_inner_89 : decode cM_inner 89 = .ok (.iconst 0, 1) := by decide +kernel
theorem dM_inner_90 : decode cM_inner 90 = .ok (.goto 4, 3) := by decide +kernel
theorem dM_inner_93 : decode cM_inner 93 = .ok (.iload_n 2, 1) := by decide +kernel
theorem dM_inner_94 : decode cM_inner 94 = .ok (.ireturn, 1) := by decide +kernel
theorem dM_joins_0 : decode cM_joins 0 = .ok (.aload_n 0, 1) := by decide +kernel
theorem dM_joins_1 : decode cM_joins 1 = .ok (.iconst 0, 1) := by decide +kernel
theorem dM_joins_2 : decode cM_joins 2 = .ok (.putfield 32, 3) := by decide +kernel
theorem dM_joins_5 : decode cM_joins 5 = .ok (.aload_n 0, 1) := by decide +kernel
theorem dM_joins_6 : decode cM_joins 6 = .ok (.invokevirtual 86, 3) := by decide +kernel
theorem dM_joins_9 : decode cM_joins 9 = .ok (.lconst 0, 1) := by decide +kernel
theorem dM_joins_10 : decode cM_joins 10 = .ok (.lstore_n 3, 1) := by decide +kernel
theorem dM_joins_11 : decode cM_joins 11 = .ok (.iconst 1, 1) := by decide +kernel
theorem dM_joins_12 : decode cM_joins 12 = .ok (.istore 5, 2) := by decide +kernel
theorem dM_joins_14 : decode cM_joins 14 = .ok (.iload 5, 2) := by decide +kernel
theorem dM_joins_16 : decode cM_joins 16 = .ok (.ifCond .eq 70, 3) := by decide +kernel
theorem dM_joins_19 : decode cM_joins 19 = .ok (.lload_n 3, 1) := by decide +kernel
theorem dM_joins_20 : decode cM_joins 20 = .ok (.lstore 6, 2) := by decide +kernel
theorem dM_joins_22 : decode cM_joins 22 = .ok (.iconst 0, 1) := by decide +kernel
theorem dM_joins_23 : decode cM_joins 23 = .ok (.istore 8, 2) := by decide +kernel
theorem dM_joins_25 : decode cM_joins 25 = .ok (.iload 8, 2) := by decide +kernel
theorem dM_joins_27 : decode cM_joins 27 = .ok (.bipush 40, 2) := by decide +kernel
theorem dM_joins_29 : decode cM_joins 29 = .ok (.if_icmp .ge 37, 3) := by decide +kernel
theorem dM_joins_32 : decode cM_joins 32 = .ok (.lload_n 1, 1) := by decide +kernel
theorem dM_joins_33 : decode cM_joins 33 = .ok (.lload_n 3, 1) := by decide +kernel
theorem dM_joins_34 : decode cM_joins 34 = .ok (.lor, 1) := by decide +kernel
theorem dM_joins_35 : decode cM_joins 35 = .ok (.aload_n 0, 1) := by decide +kernel
theorem dM_joins_36 : decode cM_joins 36 = .ok (.getfield 64, 3) := by decide +kernel
theorem dM_joins_39 : decode cM_joins 39 = .ok (.land, 1) := by decide +kernel
theorem dM_joins_40 : decode cM_joins 40 = .ok (.iload 8, 2) := by decide +kernel
theorem dM_joins_42 : decode cM_joins 42 = .ok (.invokestatic 36, 3) := by decide +kernel
theorem dM_joins_45 : decode cM_joins 45 = .ok (.ifCond .eq 15, 3) := by decide +kernel
theorem dM_joins_48 : decode cM_joins 48 = .ok (.lload 6, 2) := by decide +kernel
theorem dM_joins_50 : decode cM_joins 50 = .ok (.aload_n 0, 1) := by decide +kernel
theorem dM_joins_51 : decode cM_joins 51 = .ok (.getfield 29, 3) := by decide +kernel
theorem dM_joins_54 : decode cM_joins 54 = .ok (.iload 8, 2) := by decide +kernel
theorem dM_joins_56 : decode cM_joins 56 = .ok (.laload, 1) := by decide +kernel
theorem dM_joins_57 : decode cM_joins 57 = .ok (.lor, 1) := by decide +kernel
theorem dM_joins_58 : decode cM_joins 58 = .ok (.lstore 6, 2) := by decide +kernel
theorem dM_joins_60 : decode cM_joins 60 = .ok (.iinc 8 1, 3) := by decide +kernel
theorem dM_joins_63 : decode cM_joins 63 = .ok (.goto (-38), 3) := by decide +kernel
theorem dM_joins_66 : decode cM_joins 66 = .ok (.lload 6, 2) := by decide +kernel
theorem dM_joins_68 : decode cM_joins 68 = .ok (.lload_n 3, 1) := by decide +kernel
theorem dM_joins_69 : decode cM_joins 69 = .ok (.lcmp, 1) := by decide +kernel
theorem dM_joins_70 : decode cM_joins 70 = .ok (.ifCond .eq 7, 3) := by decide +kernel
theorem dM_joins_73 : decode cM_joins 73 = .ok (.iconst 1, 1) := by decide +kernel
theorem dM_joins_74 : decode cM_joins 74 = .ok (.goto 4, 3) := by decide +kernel
theorem dM_joins_77 : decode cM_joins 77 = .ok (.iconst 0, 1) := by decide +kernel
theorem dM_joins_78 : decode cM_joins 78 = .ok (.istore 5, 2) := by decide +kernel
theorem dM_joins_80 : decode cM_joins 80 = .ok (.lload 6, 2) := by decide +kernel
theorem dM_joins_82 : decode cM_joins 82 = .ok (.lstore_n 3, 1) := by decide +kernel
theorem dM_joins_83 : decode cM_joins 83 = .ok (.goto (-69), 3) := by decide +kernel
theorem dM_joins_86 : decode cM_joins 86 = .ok (.lload_n 3, 1) := by decide +kernel
theorem dM_joins_87 : decode cM_joins 87 = .ok (.lreturn, 1) := by decide +kernel
theorem dL_law_0 : decode cL_law 0 = .ok (.new 8, 3) := by decide +kernel
theorem dL_law_3 : decode cL_law 3 = .ok (.dup, 1) := by decide +kernel
theorem dL_law_4 : decode cL_law 4 = .ok (.invokespecial 15, 3) := by decide +kernel
theorem dL_law_7 : decode cL_law 7 = .ok (.astore_n 1, 1) := by decide +kernel
theorem dL_law_8 : decode cL_law 8 = .ok (.new 16, 3) := by decide +kernel
theorem dL_law_11 : decode cL_law 11 = .ok (.dup, 1) := by decide +kernel
theorem dL_law_12 : decode cL_law 12 = .ok (.invokespecial 18, 3) := by decide +kernel
theorem dL_law_15 : decode cL_law 15 = .ok (.astore_n 2, 1) := by decide +kernel
theorem dL_law_16 : decode cL_law 16 = .ok (.iconst 1, 1) := by decide +kernel
theorem dL_law_17 : decode cL_law 17 = .ok (.newarray .long, 2) := by decide +kernel
theorem dL_law_19 : decode cL_law 19 = .ok (.astore_n 3, 1) := by decide +kernel
theorem dL_law_20 : decode cL_law 20 = .ok (.iconst 0, 1) := by decide +kernel
theorem dL_law_21 : decode cL_law 21 = .ok (.istore 4, 2) := by decide +kernel
theorem dL_law_23 : decode cL_law 23 = .ok (.iload 4, 2) := by decide +kernel
theorem dL_law_25 : decode cL_law 25 = .ok (.aload_n 0, 1) := by decide +kernel
theorem dL_law_26 : decode cL_law 26 = .ok (.arraylength, 1) := by decide +kernel
theorem dL_law_27 : decode cL_law 27 = .ok (.iconst 3, 1) := by decide +kernel
theorem dL_law_28 : decode cL_law 28 = .ok (.isub, 1) := by decide +kernel
theorem dL_law_29 : decode cL_law 29 = .ok (.if_icmp .gt 408, 3) := by decide +kernel
theorem dL_law_32 : decode cL_law 32 = .ok (.aload_n 0, 1) := by decide +kernel
theorem dL_law_33 : decode cL_law 33 = .ok (.iload 4, 2) := by decide +kernel
theorem dL_law_35 : decode cL_law 35 = .ok (.iaload, 1) := by decide +kernel
theorem dL_law_36 : decode cL_law 36 = .ok (.bipush 15, 2) := by decide +kernel
theorem dL_law_38 : decode cL_law 38 = .ok (.iand, 1) := by decide +kernel
theorem dL_law_39 : decode cL_law 39 = .ok (.tableswitch 392 0 9 #[53, 78, 115, 140, 165, 190, 215, 253, 278, 334], 53) := by decide +kernel
theorem dL_law_92 : decode cL_law 92 = .ok (.aload_n 1, 1) := by decide +kernel
theorem dL_law_93 : decode cL_law 93 = .ok (.aload_n 0, 1) := by decide +kernel
theorem dL_law_94 : decode cL_law 94 = .ok (.iload 4, 2) := by decide +kernel
theorem dL_law_96 : decode cL_law 96 = .ok (.iconst 1, 1) := by decide +kernel
theorem dL_law_97 : decode cL_law 97 = .ok (.iadd, 1) := by decide +kernel
theorem dL_law_98 : decode cL_law 98 = .ok (.iaload, 1) := by decide +kernel
theorem dL_law_99 : decode cL_law 99 = .ok (.invokevirtual 19, 3) := by decide +kernel
theorem dL_law_102 : decode cL_law 102 = .ok (.aload_n 2, 1) := by decide +kernel
theorem dL_law_103 : decode cL_law 103 = .ok (.aload_n 0, 1) := by decide +kernel
theorem dL_law_104 : decode cL_law 104 = .ok (.iload 4, 2) := by decide +kernel
theorem dL_law_106 : decode cL_law 106 = .ok (.iconst 1, 1) := by decide +kernel
theorem dL_law_107 : decode cL_law 107 = .ok (.iadd, 1) := by decide +kernel
theorem dL_law_108 : decode cL_law 108 = .ok (.iaload, 1) := by decide +kernel
theorem dL_law_109 : decode cL_law 109 = .ok (.invokevirtual 23, 3) := by decide +kernel
theorem dL_law_112 : decode cL_law 112 = .ok (.if_icmp .eq 319, 3) := by decide +kernel
theorem dL_law_115 : decode cL_law 115 = .ok (.iconst 0, 1) := by decide +kernel
theorem dL_law_116 : decode cL_law 116 = .ok (.ireturn, 1) := by decide +kernel
theorem dL_law_117 : decode cL_law 117 = .ok (.aload_n 1, 1) := by decide +kernel
theorem dL_law_118 : decode cL_law 118 = .ok (.aload_n 0, 1) := by decide +kernel
theorem dL_law_119 : decode cL_law 119 = .ok (.iload 4, 2) := by decide +kernel
theorem dL_law_121 : decode cL_law 121 = .ok (.iconst 1, 1) := by decide +kernel
theorem dL_law_122 : decode cL_law 122 = .ok (.iadd, 1) := by decide +kernel
theorem dL_law_123 : decode cL_law 123 = .ok (.iaload, 1) := by decide +kernel
theorem dL_law_124 : decode cL_law 124 = .ok (.aload_n 0, 1) := by decide +kernel
theorem dL_law_125 : decode cL_law 125 = .ok (.iload 4, 2) := by decide +kernel
theorem dL_law_127 : decode cL_law 127 = .ok (.iconst 2, 1) := by decide +kernel
theorem dL_law_128 : decode cL_law 128 = .ok (.iadd, 1) := by decide +kernel
theorem dL_law_129 : decode cL_law 129 = .ok (.iaload, 1) := by decide +kernel
theorem dL_law_130 : decode cL_law 130 = .ok (.invokevirtual 24, 3) := by decide +kernel
theorem dL_law_133 : decode cL_law 133 = .ok (.aload_n 2, 1) := by decide +kernel
theorem dL_law_134 : decode cL_law 134 = .ok (.aload_n 0, 1) := by decide +kernel
theorem dL_law_135 : decode cL_law 135 = .ok (.iload 4, 2) := by decide +kernel
theorem dL_law_137 : decode cL_law 137 = .ok (.iconst 1, 1) := by decide +kernel
theorem dL_law_138 : decode cL_law 138 = .ok (.iadd, 1) := by decide +kernel
theorem dL_law_139 : decode cL_law 139 = .ok (.iaload, 1) := by decide +kernel
theorem dL_law_140 : decode cL_law 140 = .ok (.aload_n 0, 1) := by decide +kernel
theorem dL_law_141 : decode cL_law 141 = .ok (.iload 4, 2) := by decide +kernel
theorem dL_law_143 : decode cL_law 143 = .ok (.iconst 2, 1) := by decide +kernel
theorem dL_law_144 : decode cL_law 144 = .ok (.iadd, 1) := by decide +kernel
theorem dL_law_145 : decode cL_law 145 = .ok (.iaload, 1) := by decide +kernel
theorem dL_law_146 : decode cL_law 146 = .ok (.invokevirtual 28, 3) := by decide +kernel
theorem dL_law_149 : decode cL_law 149 = .ok (.if_icmp .eq 282, 3) := by decide +kernel
theorem dL_law_152 : decode cL_law 152 = .ok (.iconst 0, 1) := by decide +kernel
theorem dL_law_153 : decode cL_law 153 = .ok (.ireturn, 1) := by decide +kernel
theorem dL_law_154 : decode cL_law 154 = .ok (.aload_n 1, 1) := by decide +kernel
theorem dL_law_155 : decode cL_law 155 = .ok (.aload_n 0, 1) := by decide +kernel
theorem dL_law_156 : decode cL_law 156 = .ok (.iload 4, 2) := by decide +kernel
theorem dL_law_158 : decode cL_law 158 = .ok (.iconst 1, 1) := by decide +kernel
theorem dL_law_159 : decode cL_law 159 = .ok (.iadd, 1) := by decide +kernel
theorem dL_law_160 : decode cL_law 160 = .ok (.iaload, 1) := by decide +kernel
theorem dL_law_161 : decode cL_law 161 = .ok (.invokevirtual 29, 3) := by decide +kernel
theorem dL_law_164 : decode cL_law 164 = .ok (.aload_n 2, 1) := by decide +kernel
theorem dL_law_165 : decode cL_law 165 = .ok (.aload_n 0, 1) := by decide +kernel
theorem dL_law_166 : decode cL_law 166 = .ok (.iload 4, 2) := by decide +kernel
theorem dL_law_168 : decode cL_law 168 = .ok (.iconst 1, 1) := by decide +kernel
theorem dL_law_169 : decode cL_law 169 = .ok (.iadd, 1) := by decide +kernel
theorem dL_law_170 : decode cL_law 170 = .ok (.iaload, 1) := by decide +kernel
theorem dL_law_171 : decode cL_law 171 = .ok (.invokevirtual 32, 3) := by decide +kernel
theorem dL_law_174 : decode cL_law 174 = .ok (.if_icmp .eq 257, 3) := by decide +kernel
theorem dL_law_177 : decode cL_law 177 = .ok (.iconst 0, 1) := by decide +kernel
theorem dL_law_178 : decode cL_law 178 = .ok (.ireturn, 1) := by decide +kernel
theorem dL_law_179 : decode cL_law 179 = .ok (.aload_n 1, 1) := by decide +kernel
theorem dL_law_180 : decode cL_law 180 = .ok (.aload_n 0, 1) := by decide +kernel
theorem dL_law_181 : decode cL_law 181 = .ok (.iload 4, 2) := by decide +kernel
theorem dL_law_183 : decode cL_law 183 = .ok (.iconst 1, 1) := by decide +kernel
theorem dL_law_184 : decode cL_law 184 = .ok (.iadd, 1) := by decide +kernel
theorem dL_law_185 : decode cL_law 185 = .ok (.iaload, 1) := by decide +kernel
theorem dL_law_186 : decode cL_law 186 = .ok (.invokevirtual 33, 3) := by decide +kernel
theorem dL_law_189 : decode cL_law 189 = .ok (.aload_n 2, 1) := by decide +kernel
theorem dL_law_190 : decode cL_law 190 = .ok (.aload_n 0, 1) := by decide +kernel
theorem dL_law_191 : decode cL_law 191 = .ok (.iload 4, 2) := by decide +kernel
theorem dL_law_193 : decode cL_law 193 = .ok (.iconst 1, 1) := by decide +kernel
theorem dL_law_194 : decode cL_law 194 = .ok (.iadd, 1) := by decide +kernel
theorem dL_law_195 : decode cL_law 195 = .ok (.iaload, 1) := by decide +kernel
theorem dL_law_196 : decode cL_law 196 = .ok (.invokevirtual 36, 3) := by decide +kernel
theorem dL_law_199 : decode cL_law 199 = .ok (.if_icmp .eq 232, 3) := by decide +kernel
theorem dL_law_202 : decode cL_law 202 = .ok (.iconst 0, 1) := by decide +kernel
theorem dL_law_203 : decode cL_law 203 = .ok (.ireturn, 1) := by decide +kernel
theorem dL_law_204 : decode cL_law 204 = .ok (.aload_n 1, 1) := by decide +kernel
theorem dL_law_205 : decode cL_law 205 = .ok (.aload_n 0, 1) := by decide +kernel
theorem dL_law_206 : decode cL_law 206 = .ok (.iload 4, 2) := by decide +kernel
theorem dL_law_208 : decode cL_law 208 = .ok (.iconst 1, 1) := by decide +kernel
theorem dL_law_209 : decode cL_law 209 = .ok (.iadd, 1) := by decide +kernel
theorem dL_law_210 : decode cL_law 210 = .ok (.iaload, 1) := by decide +kernel
theorem dL_law_211 : decode cL_law 211 = .ok (.invokevirtual 37, 3) := by decide +kernel
theorem dL_law_214 : decode cL_law 214 = .ok (.aload_n 2, 1) := by decide +kernel
theorem dL_law_215 : decode cL_law 215 = .ok (.aload_n 0, 1) := by decide +kernel
theorem dL_law_216 : decode cL_law 216 = .ok (.iload 4, 2) := by decide +kernel
theorem dL_law_218 : decode cL_law 218 = .ok (.iconst 1, 1) := by decide +kernel
theorem dL_law_219 : decode cL_law 219 = .ok (.iadd, 1) := by decide +kernel
theorem dL_law_220 : decode cL_law 220 = .ok (.iaload, 1) := by decide +kernel
theorem dL_law_221 : decode cL_law 221 = .ok (.invokevirtual 40, 3) := by decide +kernel
theorem dL_law_224 : decode cL_law 224 = .ok (.if_icmp .eq 207, 3) := by decide +kernel
theorem dL_law_227 : decode cL_law 227 = .ok (.iconst 0, 1) := by decide +kernel
theorem dL_law_228 : decode cL_law 228 = .ok (.ireturn, 1) := by decide +kernel
theorem dL_law_229 : decode cL_law 229 = .ok (.aload_n 1, 1) := by decide +kernel
theorem dL_law_230 : decode cL_law 230 = .ok (.aload_n 0, 1) := by decide +kernel
theorem dL_law_231 : decode cL_law 231 = .ok (.iload 4, 2) := by decide +kernel
theorem dL_law_233 : decode cL_law 233 = .ok (.iconst 1, 1) := by decide +kernel
theorem dL_law_234 : decode cL_law 234 = .ok (.iadd, 1) := by decide +kernel
theorem dL_law_235 : decode cL_law 235 = .ok (.iaload, 1) := by decide +kernel
theorem dL_law_236 : decode cL_law 236 = .ok (.invokevirtual 41, 3) := by decide +kernel
theorem dL_law_239 : decode cL_law 239 = .ok (.aload_n 2, 1) := by decide +kernel
theorem dL_law_240 : decode cL_law 240 = .ok (.aload_n 0, 1) := by decide +kernel
theorem dL_law_241 : decode cL_law 241 = .ok (.iload 4, 2) := by decide +kernel
theorem dL_law_243 : decode cL_law 243 = .ok (.iconst 1, 1) := by decide +kernel
theorem dL_law_244 : decode cL_law 244 = .ok (.iadd, 1) := by decide +kernel
theorem dL_law_245 : decode cL_law 245 = .ok (.iaload, 1) := by decide +kernel
theorem dL_law_246 : decode cL_law 246 = .ok (.invokevirtual 44, 3) := by decide +kernel
theorem dL_law_249 : decode cL_law 249 = .ok (.if_icmp .eq 182, 3) := by decide +kernel
theorem dL_law_252 : decode cL_law 252 = .ok (.iconst 0, 1) := by decide +kernel
theorem dL_law_253 : decode cL_law 253 = .ok (.ireturn, 1) := by decide +kernel
theorem dL_law_254 : decode cL_law 254 = .ok (.aload_n 1, 1) := by decide +kernel
theorem dL_law_255 : decode cL_law 255 = .ok (.aload_n 0, 1) := by decide +kernel
theorem dL_law_256 : decode cL_law 256 = .ok (.iload 4, 2) := by decide +kernel
theorem dL_law_258 : decode cL_law 258 = .ok (.iconst 1, 1) := by decide +kernel
theorem dL_law_259 : decode cL_law 259 = .ok (.iadd, 1) := by decide +kernel
theorem dL_law_260 : decode cL_law 260 = .ok (.iaload, 1) := by decide +kernel
theorem dL_law_261 : decode cL_law 261 = .ok (.aload_n 0, 1) := by decide +kernel
theorem dL_law_262 : decode cL_law 262 = .ok (.iload 4, 2) := by decide +kernel
theorem dL_law_264 : decode cL_law 264 = .ok (.iconst 2, 1) := by decide +kernel
theorem dL_law_265 : decode cL_law 265 = .ok (.iadd, 1) := by decide +kernel
theorem dL_law_266 : decode cL_law 266 = .ok (.iaload, 1) := by decide +kernel
theorem dL_law_267 : decode cL_law 267 = .ok (.invokevirtual 45, 3) := by decide +kernel
theorem dL_law_270 : decode cL_law 270 = .ok (.aload_n 2, 1) := by decide +kernel
theorem dL_law_271 : decode cL_law 271 = .ok (.aload_n 0, 1) := by decide +kernel
theorem dL_law_272 : decode cL_law 272 = .ok (.iload 4, 2) := by decide +kernel
theorem dL_law_274 : decode cL_law 274 = .ok (.iconst 1, 1) := by decide +kernel
theorem dL_law_275 : decode cL_law 275 = .ok (.iadd, 1) := by decide +kernel
theorem dL_law_276 : decode cL_law 276 = .ok (.iaload, 1) := by decide +kernel
theorem dL_law_277 : decode cL_law 277 = .ok (.aload_n 0, 1) := by decide +kernel
theorem dL_law_278 : decode cL_law 278 = .ok (.iload 4, 2) := by decide +kernel
theorem dL_law_280 : decode cL_law 280 = .ok (.iconst 2, 1) := by decide +kernel
theorem dL_law_281 : decode cL_law 281 = .ok (.iadd, 1) := by decide +kernel
theorem dL_law_282 : decode cL_law 282 = .ok (.iaload, 1) := by decide +kernel
theorem dL_law_283 : decode cL_law 283 = .ok (.invokevirtual 49, 3) := by decide +kernel
theorem dL_law_286 : decode cL_law 286 = .ok (.lcmp, 1) := by decide +kernel
theorem dL_law_287 : decode cL_law 287 = .ok (.ifCond .eq 144, 3) := by decide +kernel
theorem dL_law_290 : decode cL_law 290 = .ok (.iconst 0, 1) := by decide +kernel
theorem dL_law_291 : decode cL_law 291 = .ok (.ireturn, 1) := by decide +kernel
theorem dL_law_292 : decode cL_law 292 = .ok (.aload_n 1, 1) := by decide +kernel
theorem dL_law_293 : decode cL_law 293 = .ok (.aload_n 0, 1) := by decide +kernel
theorem dL_law_294 : decode cL_law 294 = .ok (.iload 4, 2) := by decide +kernel
theorem dL_law_296 : decode cL_law 296 = .ok (.iconst 1, 1) := by decide +kernel
theorem dL_law_297 : decode cL_law 297 = .ok (.iadd, 1) := by decide +kernel
theorem dL_law_298 : decode cL_law 298 = .ok (.iaload, 1) := by decide +kernel
theorem dL_law_299 : decode cL_law 299 = .ok (.invokevirtual 50, 3) := by decide +kernel
theorem dL_law_302 : decode cL_law 302 = .ok (.aload_n 2, 1) := by decide +kernel
theorem dL_law_303 : decode cL_law 303 = .ok (.aload_n 0, 1) := by decide +kernel
theorem dL_law_304 : decode cL_law 304 = .ok (.iload 4, 2) := by decide +kernel
theorem dL_law_306 : decode cL_law 306 = .ok (.iconst 1, 1) := by decide +kernel
theorem dL_law_307 : decode cL_law 307 = .ok (.iadd, 1) := by decide +kernel
theorem dL_law_308 : decode cL_law 308 = .ok (.iaload, 1) := by decide +kernel
theorem dL_law_309 : decode cL_law 309 = .ok (.invokevirtual 53, 3) := by decide +kernel
theorem dL_law_312 : decode cL_law 312 = .ok (.if_icmp .eq 119, 3) := by decide +kernel
theorem dL_law_315 : decode cL_law 315 = .ok (.iconst 0, 1) := by decide +kernel
theorem dL_law_316 : decode cL_law 316 = .ok (.ireturn, 1) := by decide +kernel
theorem dL_law_317 : decode cL_law 317 = .ok (.aload_n 1, 1) := by decide +kernel
theorem dL_law_318 : decode cL_law 318 = .ok (.aload_n 0, 1) := by decide +kernel
theorem dL_law_319 : decode cL_law 319 = .ok (.iload 4, 2) := by decide +kernel
theorem dL_law_321 : decode cL_law 321 = .ok (.iconst 1, 1) := by decide +kernel
theorem dL_law_322 : decode cL_law 322 = .ok (.iadd, 1) := by decide +kernel
theorem dL_law_323 : decode cL_law 323 = .ok (.iaload, 1) := by decide +kernel
theorem dL_law_324 : decode cL_law 324 = .ok (.aload_n 3, 1) := by decide +kernel
theorem dL_law_325 : decode cL_law 325 = .ok (.invokestatic 54, 3) := by decide +kernel
theorem dL_law_328 : decode cL_law 328 = .ok (.istore 5, 2) := by decide +kernel
theorem dL_law_330 : decode cL_law 330 = .ok (.aload_n 2, 1) := by decide +kernel
theorem dL_law_331 : decode cL_law 331 = .ok (.aload_n 0, 1) := by decide +kernel
theorem dL_law_332 : decode cL_law 332 = .ok (.iload 4, 2) := by decide +kernel
theorem dL_law_334 : decode cL_law 334 = .ok (.iconst 1, 1) := by decide +kernel
theorem dL_law_335 : decode cL_law 335 = .ok (.iadd, 1) := by decide +kernel
theorem dL_law_336 : decode cL_law 336 = .ok (.iaload, 1) := by decide +kernel
theorem dL_law_337 : decode cL_law 337 = .ok (.invokevirtual 59, 3) := by decide +kernel
theorem dL_law_340 : decode cL_law 340 = .ok (.istore 6, 2) := by decide +kernel
theorem dL_law_342 : decode cL_law 342 = .ok (.aload_n 2, 1) := by decide +kernel
theorem dL_law_343 : decode cL_law 343 = .ok (.invokevirtual 60, 3) := by decide +kernel
theorem dL_law_346 : decode cL_law 346 = .ok (.iload 5, 2) := by decide +kernel
theorem dL_law_348 : decode cL_law 348 = .ok (.if_icmp .eq 5, 3) := by decide +kernel
theorem dL_law_351 : decode cL_law 351 = .ok (.iconst 0, 1) := by decide +kernel
theorem dL_law_352 : decode cL_law 352 = .ok (.ireturn, 1) := by decide +kernel
theorem dL_law_353 : decode cL_law 353 = .ok (.iload 5, 2) := by decide +kernel
theorem dL_law_355 : decode cL_law 355 = .ok (.ifCond .ne 15, 3) := by decide +kernel
theorem dL_law_358 : decode cL_law 358 = .ok (.aload_n 3, 1) := by decide +kernel
theorem dL_law_359 : decode cL_law 359 = .ok (.iconst 0, 1) := by decide +kernel
theorem dL_law_360 : decode cL_law 360 = .ok (.laload, 1) := by decide +kernel
theorem dL_law_361 : decode cL_law 361 = .ok (.iload 6, 2) := by decide +kernel
theorem dL_law_363 : decode cL_law 363 = .ok (.i2l, 1) := by decide +kernel
theorem dL_law_364 : decode cL_law 364 = .ok (.lcmp, 1) := by decide +kernel
theorem dL_law_365 : decode cL_law 365 = .ok (.ifCond .eq 5, 3) := by decide +kernel
theorem dL_law_368 : decode cL_law 368 = .ok (.iconst 0, 1) := by decide +kernel
theorem dL_law_369 : decode cL_law 369 = .ok (.ireturn, 1) := by decide +kernel
theorem dL_law_370 : decode cL_law 370 = .ok (.goto 61, 3) := by decide +kernel
theorem dL_law_373 : decode cL_law 373 = .ok (.aload_n 1, 1) := by decide +kernel
theorem dL_law_374 : decode cL_law 374 = .ok (.aload_n 0, 1) := by decide +kernel
theorem dL_law_375 : decode cL_law 375 = .ok (.iload 4, 2) := by decide +kernel
theorem dL_law_377 : decode cL_law 377 = .ok (.iconst 1, 1) := by decide +kernel
theorem dL_law_378 : decode cL_law 378 = .ok (.iadd, 1) := by decide +kernel
theorem dL_law_379 : decode cL_law 379 = .ok (.iaload, 1) := by decide +kernel
theorem dL_law_380 : decode cL_law 380 = .ok (.i2l, 1) := by decide +kernel
theorem dL_law_381 : decode cL_law 381 = .ok (.bipush 32, 2) := by decide +kernel
theorem dL_law_383 : decode cL_law 383 = .ok (.lshl, 1) := by decide +kernel
theorem dL_law_384 : decode cL_law 384 = .ok (.aload_n 0, 1) := by decide +kernel
theorem dL_law_385 : decode cL_law 385 = .ok (.iload 4, 2) := by decide +kernel
theorem dL_law_387 : decode cL_law 387 = .ok (.iconst 2, 1) := by decide +kernel
theorem dL_law_388 : decode cL_law 388 = .ok (.iadd, 1) := by decide +kernel
theorem dL_law_389 : decode cL_law 389 = .ok (.iaload, 1) := by decide +kernel
theorem dL_law_390 : decode cL_law 390 = .ok (.i2l, 1) := by decide +kernel
theorem dL_law_391 : decode cL_law 391 = .ok (.ldc2_w 64, 3) := by decide +kernel
theorem dL_law_394 : decode cL_law 394 = .ok (.land, 1) := by decide +kernel
theorem dL_law_395 : decode cL_law 395 = .ok (.lor, 1) := by decide +kernel
theorem dL_law_396 : decode cL_law 396 = .ok (.invokevirtual 66, 3) := by decide +kernel
theorem dL_law_399 : decode cL_law 399 = .ok (.aload_n 2, 1) := by decide +kernel
theorem dL_law_400 : decode cL_law 400 = .ok (.aload_n 0, 1) := by decide +kernel
theorem dL_law_401 : decode cL_law 401 = .ok (.iload 4, 2) := by decide +kernel
theorem dL_law_403 : decode cL_law 403 = .ok (.iconst 1, 1) := by decide +kernel
theorem dL_law_404 : decode cL_law 404 = .ok (.iadd, 1) := by decide +kernel
theorem dL_law_405 : decode cL_law 405 = .ok (.iaload, 1) := by decide +kernel
theorem dL_law_406 : decode cL_law 406 = .ok (.i2l, 1) := by decide +kernel
theorem dL_law_407 : decode cL_law 407 = .ok (.bipush 32, 2) := by decide +kernel
theorem dL_law_409 : decode cL_law 409 = .ok (.lshl, 1) := by decide +kernel
theorem dL_law_410 : decode cL_law 410 = .ok (.aload_n 0, 1) := by decide +kernel
theorem dL_law_411 : decode cL_law 411 = .ok (.iload 4, 2) := by decide +kernel
theorem dL_law_413 : decode cL_law 413 = .ok (.iconst 2, 1) := by decide +kernel
theorem dL_law_414 : decode cL_law 414 = .ok (.iadd, 1) := by decide +kernel
theorem dL_law_415 : decode cL_law 415 = .ok (.iaload, 1) := by decide +kernel
theorem dL_law_416 : decode cL_law 416 = .ok (.i2l, 1) := by decide +kernel
theorem dL_law_417 : decode cL_law 417 = .ok (.ldc2_w 64, 3) := by decide +kernel
theorem dL_law_420 : decode cL_law 420 = .ok (.land, 1) := by decide +kernel
theorem dL_law_421 : decode cL_law 421 = .ok (.lor, 1) := by decide +kernel
theorem dL_law_422 : decode cL_law 422 = .ok (.invokevirtual 70, 3) := by decide +kernel
theorem dL_law_425 : decode cL_law 425 = .ok (.lcmp, 1) := by decide +kernel
theorem dL_law_426 : decode cL_law 426 = .ok (.ifCond .eq 5, 3) := by decide +kernel
theorem dL_law_429 : decode cL_law 429 = .ok (.iconst 0, 1) := by decide +kernel
theorem dL_law_430 : decode cL_law 430 = .ok (.ireturn, 1) := by decide +kernel
theorem dL_law_431 : decode cL_law 431 = .ok (.iinc 4 3, 3) := by decide +kernel
theorem dL_law_434 : decode cL_law 434 = .ok (.goto (-411), 3) := by decide +kernel
theorem dL_law_437 : decode cL_law 437 = .ok (.iconst 1, 1) := by decide +kernel
theorem dL_law_438 : decode cL_law 438 = .ok (.ireturn, 1) := by decide +kernel
