theorem dB_isPlain_36 : decode cB_isPlain 36 = .ok (.aload_n 0, 1) := by decide +kernel
theorem dB_isPlain_37 : decode cB_isPlain 37 = .ok (.getfield 24, 3) := by decide +kernel
theorem dB_isPlain_40 : decode cB_isPlain 40 = .ok (.iload 5, 2) := by decide +kernel
theorem dB_isPlain_42 : decode cB_isPlain 42 = .ok (.invokevirtual 149, 3) := by decide +kernel
theorem dB_isPlain_45 : decode cB_isPlain 45 = .ok (.aload_n 1, 1) := by decide +kernel
theorem dB_isPlain_46 : decode cB_isPlain 46 = .ok (.iload 5, 2) := by decide +kernel
theorem dB_isPlain_48 : decode cB_isPlain 48 = .ok (.invokevirtual 117, 3) := by decide +kernel
theorem dB_isPlain_51 : decode cB_isPlain 51 = .ok (.ldc2_w 63, 3) := by decide +kernel
theorem dB_isPlain_54 : decode cB_isPlain 54 = .ok (.lxor, 1) := by decide +kernel
theorem dB_isPlain_55 : decode cB_isPlain 55 = .ok (.land, 1) := by decide +kernel
theorem dB_isPlain_56 : decode cB_isPlain 56 = .ok (.lstore 6, 2) := by decide +kernel
theorem dB_isPlain_58 : decode cB_isPlain 58 = .ok (.lload 6, 2) := by decide +kernel
theorem dB_isPlain_60 : decode cB_isPlain 60 = .ok (.lload_n 2, 1) := by decide +kernel
theorem dB_isPlain_61 : decode cB_isPlain 61 = .ok (.land, 1) := by decide +kernel
theorem dB_isPlain_62 : decode cB_isPlain 62 = .ok (.lconst 0, 1) := by decide +kernel
theorem dB_isPlain_63 : decode cB_isPlain 63 = .ok (.lcmp, 1) := by decide +kernel
theorem dB_isPlain_64 : decode cB_isPlain 64 = .ok (.ifCond .ne 15, 3) := by decide +kernel
theorem dB_isPlain_67 : decode cB_isPlain 67 = .ok (.lload_n 2, 1) := by decide +kernel
theorem dB_isPlain_68 : decode cB_isPlain 68 = .ok (.iload 5, 2) := by decide +kernel
theorem dB_isPlain_70 : decode cB_isPlain 70 = .ok (.invokestatic 49, 3) := by decide +kernel
theorem dB_isPlain_73 : decode cB_isPlain 73 = .ok (.ldc2_w 63, 3) := by decide +kernel
theorem dB_isPlain_76 : decode cB_isPlain 76 = .ok (.lxor, 1) := by decide +kernel
theorem dB_isPlain_77 : decode cB_isPlain 77 = .ok (.land, 1) := by decide +kernel
theorem dB_isPlain_78 : decode cB_isPlain 78 = .ok (.lstore_n 2, 1) := by decide +kernel
theorem dB_isPlain_79 : decode cB_isPlain 79 = .ok (.iinc 5 1, 3) := by decide +kernel
theorem dB_isPlain_82 : decode cB_isPlain 82 = .ok (.goto (-53), 3) := by decide +kernel
theorem dB_isPlain_85 : decode cB_isPlain 85 = .ok (.iinc 4 1, 3) := by decide +kernel
theorem dB_isPlain_88 : decode cB_isPlain 88 = .ok (.goto (-75), 3) := by decide +kernel
theorem dB_isPlain_91 : decode cB_isPlain 91 = .ok (.lload_n 2, 1) := by decide +kernel
theorem dB_isPlain_92 : decode cB_isPlain 92 = .ok (.lconst 0, 1) := by decide +kernel
theorem dB_isPlain_93 : decode cB_isPlain 93 = .ok (.lcmp, 1) := by decide +kernel
theorem dB_isPlain_94 : decode cB_isPlain 94 = .ok (.ifCond .ne 7, 3) := by decide +kernel
theorem dB_isPlain_97 : decode cB_isPlain 97 = .ok (.iconst 1, 1) := by decide +kernel
theorem dB_isPlain_98 : decode cB_isPlain 98 = .ok (.goto 4, 3) := by decide +kernel
theorem dB_isPlain_101 : decode cB_isPlain 101 = .ok (.iconst 0, 1) := by decide +kernel
theorem dB_isPlain_102 : decode cB_isPlain 102 = .ok (.ireturn, 1) := by decide +kernel
theorem dB_lid_0 : decode cB_lid 0 = .ok (.iload_n 1, 1) := by decide +kernel
theorem dB_lid_1 : decode cB_lid 1 = .ok (.invokestatic 41, 3) := by decide +kernel
theorem dB_lid_4 : decode cB_lid 4 = .ok (.ifCond .eq 14, 3) := by decide +kernel
theorem dB_lid_7 : decode cB_lid 7 = .ok (.aload_n 0, 1) := by decide +kernel
theorem dB_lid_8 : decode cB_lid 8 = .ok (.invokevirtual 78, 3) := by decide +kernel
theorem dB_lid_11 : decode cB_lid 11 = .ok (.iload_n 1, 1) := by decide +kernel
theorem dB_lid_12 : decode cB_lid 12 = .ok (.invokevirtual 104, 3) := by decide +kernel
theorem dB_lid_15 : decode cB_lid 15 = .ok (.goto 4, 3) := by decide +kernel
theorem dB_lid_18 : decode cB_lid 18 = .ok (.iconst (-1), 1) := by decide +kernel
theorem dB_lid_19 : decode cB_lid 19 = .ok (.ireturn, 1) := by decide +kernel
theorem dS_nearestGate_0 : decode cS_nearestGate 0 = .ok (.aload_n 0, 1) := by decide +kernel
theorem dS_nearestGate_1 : decode cS_nearestGate 1 = .ok (.iload_n 1, 1) := by decide +kernel
theorem dS_nearestGate_2 : decode cS_nearestGate 2 = .ok (.invokevirtual 40, 3) := by decide +kernel
theorem dS_nearestGate_5 : decode cS_nearestGate 5 = .ok (.iload_n 1, 1) := by decide +kernel
theorem dS_nearestGate_6 : decode cS_nearestGate 6 = .ok (.invokestatic 22, 3) := by decide +kernel
theorem dS_nearestGate_9 : decode cS_nearestGate 9 = .ok (.ldc2_w 26, 3) := by decide +kernel
theorem dS_nearestGate_12 : decode cS_nearestGate 12 = .ok (.lxor, 1) := by decide +kernel
theorem dS_nearestGate_13 : decode cS_nearestGate 13 = .ok (.land, 1) := by decide +kernel
theorem dS_nearestGate_14 : decode cS_nearestGate 14 = .ok (.lstore_n 2, 1) := by decide +kernel
theorem dS_nearestGate_15 : decode cS_nearestGate 15 = .ok (.lload_n 2, 1) := by decide +kernel
theorem dS_nearestGate_16 : decode cS_nearestGate 16 = .ok (.lstore 4, 2) := by decide +kernel
theorem dS_nearestGate_18 : decode cS_nearestGate 18 = .ok (.iconst 0, 1) := by decide +kernel
theorem dS_nearestGate_19 : decode cS_nearestGate 19 = .ok (.istore 6, 2) := by decide +kernel
theorem dS_nearestGate_21 : decode cS_nearestGate 21 = .ok (.iload 6, 2) := by decide +kernel
theorem dS_nearestGate_23 : decode cS_nearestGate 23 = .ok (.bipush 40, 2) := by decide +kernel
theorem dS_nearestGate_25 : decode cS_nearestGate 25 = .ok (.if_icmp .ge 30, 3) := by decide +kernel
theorem dS_nearestGate_28 : decode cS_nearestGate 28 = .ok (.lload_n 2, 1) := by decide +kernel
theorem dS_nearestGate_29 : decode cS_nearestGate 29 = .ok (.iload 6, 2) := by decide +kernel
theorem dS_nearestGate_31 : decode cS_nearestGate 31 = .ok (.invokestatic 32, 3) := by decide +kernel
theorem dS_nearestGate_34 : decode cS_nearestGate 34 = .ok (.ifCond .eq 15, 3) := by decide +kernel
theorem dS_nearestGate_37 : decode cS_nearestGate 37 = .ok (.lload 4, 2) := by decide +kernel
theorem dS_nearestGate_39 : decode cS_nearestGate 39 = .ok (.aload_n 0, 1) := by decide +kernel
theorem dS_nearestGate_40 : decode cS_nearestGate 40 = .ok (.getfield 15, 3) := by decide +kernel
theorem dS_nearestGate_43 : decode cS_nearestGate 43 = .ok (.iload 6, 2) := by decide +kernel
theorem dS_nearestGate_45 : decode cS_nearestGate 45 = .ok (.laload, 1) := by decide +kernel
theorem dS_nearestGate_46 : decode cS_nearestGate 46 = .ok (.land, 1) := by decide +kernel
theorem dS_nearestGate_47 : decode cS_nearestGate 47 = .ok (.lstore 4, 2) := by decide +kernel
theorem dS_nearestGate_49 : decode cS_nearestGate 49 = .ok (.iinc 6 1, 3) := by decide +kernel
theorem dS_nearestGate_52 : decode cS_nearestGate 52 = .ok (.goto (-31), 3) := by decide +kernel
theorem dS_nearestGate_55 : decode cS_nearestGate 55 = .ok (.lload 4, 2) := by decide +kernel
theorem dS_nearestGate_57 : decode cS_nearestGate 57 = .ok (.lconst 0, 1) := by decide +kernel
theorem dS_nearestGate_58 : decode cS_nearestGate 58 = .ok (.lcmp, 1) := by decide +kernel
theorem dS_nearestGate_59 : decode cS_nearestGate 59 = .ok (.ifCond .ne 7, 3) := by decide +kernel
theorem dS_nearestGate_62 : decode cS_nearestGate 62 = .ok (.iconst (-1), 1) := by decide +kernel
theorem dS_nearestGate_63 : decode cS_nearestGate 63 = .ok (.goto 8, 3) := by decide +kernel
theorem dS_nearestGate_66 : decode cS_nearestGate 66 = .ok (.lload 4, 2) := by decide +kernel
theorem dS_nearestGate_68 : decode cS_nearestGate 68 = .ok (.invokestatic 36, 3) := by decide +kernel
theorem dS_nearestGate_71 : decode cS_nearestGate 71 = .ok (.ireturn, 1) := by decide +kernel
theorem dS_gates_0 : decode cS_gates 0 = .ok (.lconst 0, 1) := by decide +kernel
theorem dS_gates_1 : decode cS_gates 1 = .ok (.lstore_n 2, 1) := by decide +kernel
theorem dS_gates_2 : decode cS_gates 2 = .ok (.iconst 0, 1) := by decide +kernel
theorem dS_gates_3 : decode cS_gates 3 = .ok (.istore 4, 2) := by decide +kernel
theorem dS_gates_5 : decode cS_gates 5 = .ok (.iload 4, 2) := by decide +kernel
theorem dS_gates_7 : decode cS_gates 7 = .ok (.bipush 40, 2) := by decide +kernel
theorem dS_gates_9 : decode cS_gates 9 = .ok (.if_icmp .ge 31, 3) := by decide +kernel
theorem dS_gates_12 : decode cS_gates 12 = .ok (.aload_n 0, 1) := by decide +kernel
theorem dS_gates_13 : decode cS_gates 13 = .ok (.getfield 15, 3) := by decide +kernel
theorem dS_gates_16 : decode cS_gates 16 = .ok (.iload 4, 2) := by decide +kernel
theorem dS_gates_18 : decode cS_gates 18 = .ok (.laload, 1) := by decide +kernel
theorem dS_gates_19 : decode cS_gates 19 = .ok (.iload_n 1, 1) := by decide +kernel
theorem dS_gates_20 : decode cS_gates 20 = .ok (.invokestatic 32, 3) := by decide +kernel
theorem dS_gates_23 : decode cS_gates 23 = .ok (.ifCond .eq 11, 3) := by decide +kernel
theorem dS_gates_26 : decode cS_gates 26 = .ok (.lload_n 2, 1) := by decide +kernel
theorem dS_gates_27 : decode cS_gates 27 = .ok (.iload 4, 2) := by decide +kernel
theorem dS_gates_29 : decode cS_gates 29 = .ok (.invokestatic 22, 3) := by decide +kernel
theorem dS_gates_32 : decode cS_gates 32 = .ok (.lor, 1) := by decide +kernel
theorem dS_gates_33 : decode cS_gates 33 = .ok (.lstore_n 2, 1) := by decide +kernel
theorem dS_gates_34 : decode cS_gates 34 = .ok (.iinc 4 1, 3) := by decide +kernel
theorem dS_gates_37 : decode cS_gates 37 = .ok (.goto (-32), 3) := by decide +kernel
theorem dS_gates_40 : decode cS_gates 40 = .ok (.lload_n 2, 1) := by decide +kernel
theorem dS_gates_41 : decode cS_gates 41 = .ok (.lreturn, 1) := by decide +kernel
theorem dB_meeting_0 : decode cB_meeting 0 = .ok (.iload_n 1, 1) := by decide +kernel
theorem dB_meeting_1 : decode cB_meeting 1 = .ok (.invokestatic 41, 3) := by decide +kernel
theorem dB_meeting_4 : decode cB_meeting 4 = .ok (.ifCond .eq 14, 3) := by decide +kernel
theorem dB_meeting_7 : decode cB_meeting 7 = .ok (.aload_n 0, 1) := by decide +kernel
theorem dB_meeting_8 : decode cB_meeting 8 = .ok (.invokevirtual 86, 3) := by decide +kernel
theorem dB_meeting_11 : decode cB_meeting 11 = .ok (.iload_n 1, 1) := by decide +kernel
theorem dB_meeting_12 : decode cB_meeting 12 = .ok (.invokevirtual 104, 3) := by decide +kernel
theorem dB_meeting_15 : decode cB_meeting 15 = .ok (.goto 4, 3) := by decide +kernel
theorem dB_meeting_18 : decode cB_meeting 18 = .ok (.iconst (-1), 1) := by decide +kernel
theorem dB_meeting_19 : decode cB_meeting 19 = .ok (.ireturn, 1) := by decide +kernel
theorem dB_set_0 : decode cB_set 0 = .ok (.iload_n 2, 1) := by decide +kernel
theorem dB_set_1 : decode cB_set 1 = .ok (.invokestatic 41, 3) := by decide +kernel
theorem dB_set_4 : decode cB_set 4 = .ok (.ifCond .ne 5, 3) := by decide +kernel
theorem dB_set_7 : decode cB_set 7 = .ok (.lconst 0, 1) := by decide +kernel
theorem dB_set_8 : decode cB_set 8 = .ok (.lreturn, 1) := by decide +kernel
theorem dB_set_9 : decode cB_set 9 = .ok (.iload_n 1, 1) := by decide +kernel
theorem dB_set_10 : decode cB_set 10 = .ok (.tableswitch 92 0 5 #[38, 47, 56, 65, 74, 83], 38) := by decide +kernel
theorem dB_set_48 : decode cB_set 48 = .ok (.aload_n 0, 1) := by decide +kernel
theorem dB_set_49 : decode cB_set 49 = .ok (.invokevirtual 78, 3) := by decide +kernel
theorem dB_set_52 : decode cB_set 52 = .ok (.iload_n 2, 1) := by decide +kernel
theorem dB_set_53 : decode cB_set 53 = .ok (.invokevirtual 108, 3) := by decide +kernel
theorem dB_set_56 : decode cB_set 56 = .ok (.lreturn, 1) := by decide +kernel
theorem dB_set_57 : decode cB_set 57 = .ok (.aload_n 0, 1) := by decide +kernel
theorem dB_set_58 : decode cB_set 58 = .ok (.invokevirtual 86, 3) := by decide +kernel
theorem dB_set_61 : decode cB_set 61 = .ok (.iload_n 2, 1) := by decide +kernel
theorem dB_set_62 : decode cB_set 62 = .ok (.invokevirtual 108, 3) := by decide +kernel
theorem dB_set_65 : decode cB_set 65 = .ok (.lreturn, 1) := by decide +kernel
theorem dB_set_66 : decode cB_set 66 = .ok (.aload_n 0, 1) := by decide +kernel
theorem dB_set_67 : decode cB_set 67 = .ok (.invokevirtual 89, 3) := by decide +kernel
theorem dB_set_70 : decode cB_set 70 = .ok (.iload_n 2, 1) := by decide +kernel
theorem dB_set_71 : decode cB_set 71 = .ok (.invokevirtual 111, 3) := by decide +kernel
theorem dB_set_74 : decode cB_set 74 = .ok (.lreturn, 1) := by decide +kernel
theorem dB_set_75 : decode cB_set 75 = .ok (.aload_n 0, 1) := by decide +kernel
theorem dB_set_76 : decode cB_set 76 = .ok (.invokevirtual 78, 3) := by decide +kernel
theorem dB_set_79 : decode cB_set 79 = .ok (.iload_n 2, 1) := by decide +kernel
theorem dB_set_80 : decode cB_set 80 = .ok (.invokevirtual 114, 3) := by decide +kernel
theorem dB_set_83 : decode cB_set 83 = .ok (.lreturn, 1) := by decide +kernel
theorem dB_set_84 : decode cB_set 84 = .ok (.aload_n 0, 1) := by decide +kernel
theorem dB_set_85 : decode cB_set 85 = .ok (.invokevirtual 86, 3) := by decide +kernel
theorem dB_set_88 : decode cB_set 88 = .ok (.iload_n 2, 1) := by decide +kernel
theorem dB_set_89 : decode cB_set 89 = .ok (.invokevirtual 114, 3) := by decide +kernel
theorem dB_set_92 : decode cB_set 92 = .ok (.lreturn, 1) := by decide +kernel
theorem dB_set_93 : decode cB_set 93 = .ok (.aload_n 0, 1) := by decide +kernel
theorem dB_set_94 : decode cB_set 94 = .ok (.invokevirtual 78, 3) := by decide +kernel
theorem dB_set_97 : decode cB_set 97 = .ok (.iload_n 2, 1) := by decide +kernel
theorem dB_set_98 : decode cB_set 98 = .ok (.invokevirtual 117, 3) := by decide +kernel
theorem dB_set_101 : decode cB_set 101 = .ok (.lreturn, 1) := by decide +kernel
theorem dB_set_102 : decode cB_set 102 = .ok (.lconst 0, 1) := by decide +kernel
theorem dB_set_103 : decode cB_set 103 = .ok (.lreturn, 1) := by decide +kernel
theorem dR_blocksOf_0 : decode cR_blocksOf 0 = .ok (.aload_n 0, 1) := by decide +kernel
theorem dR_blocksOf_1 : decode cR_blocksOf 1 = .ok (.getfield 9, 3) := by decide +kernel
theorem dR_blocksOf_4 : decode cR_blocksOf 4 = .ok (.iload_n 1, 1) := by decide +kernel
theorem dR_blocksOf_5 : decode cR_blocksOf 5 = .ok (.laload, 1) := by decide +kernel
theorem dR_blocksOf_6 : decode cR_blocksOf 6 = .ok (.lreturn, 1) := by decide +kernel
theorem dS_rim_0 : decode cS_rim 0 = .ok (.lconst 0, 1) := by decide +kernel
theorem dS_rim_1 : decode cS_rim 1 = .ok (.lstore_n 2, 1) := by decide +kernel
theorem dS_rim_2 : decode cS_rim 2 = .ok (.iconst 0, 1) := by decide +kernel
theorem dS_rim_3 : decode cS_rim 3 = .ok (.istore 4, 2) := by decide +kernel
theorem dS_rim_5 : decode cS_rim 5 = .ok (.iload 4, 2) := by decide +kernel
theorem dS_rim_7 : decode cS_rim 7 = .ok (.bipush 40, 2) := by decide +kernel
theorem dS_rim_9 : decode cS_rim 9 = .ok (.if_icmp .ge 33, 3) := by decide +kernel
theorem dS_rim_12 : decode cS_rim 12 = .ok (.aload_n 0, 1) := by decide +kernel
theorem dS_rim_13 : decode cS_rim 13 = .ok (.getfield 15, 3) := by decide +kernel
theorem dS_rim_16 : decode cS_rim 16 = .ok (.iload_n 1, 1) := by decide +kernel
theorem dS_rim_17 : decode cS_rim 17 = .ok (.laload, 1) := by decide +kernel
theorem dS_rim_18 : decode cS_rim 18 = .ok (.iload 4, 2) := by decide +kernel
theorem dS_rim_20 : decode cS_rim 20 = .ok (.invokestatic 32, 3) := by decide +kernel
theorem dS_rim_23 : decode cS_rim 23 = .ok (.ifCond .eq 13, 3) := by decide +kernel
theorem dS_rim_26 : decode cS_rim 26 = .ok (.lload_n 2, 1) := by decide +kernel
theorem dS_rim_27 : decode cS_rim 27 = .ok (.aload_n 0, 1) := by decide +kernel
theorem dS_rim_28 : decode cS_rim 28 = .ok (.getfield 9, 3) := by decide +kernel
theorem dS_rim_31 : decode cS_rim 31 = .ok (.iload 4, 2) := by decide +kernel
theorem dS_rim_33 : decode cS_rim 33 = .ok (.laload, 1) := by decide +kernel
theorem dS_rim_34 : decode cS_rim 34 = .ok (.lor, 1) := by decide +kernel
theorem dS_rim_35 : decode cS_rim 35 = .ok (.lstore_n 2, 1) := by decide +kernel
theorem dS_rim_36 : decode cS_rim 36 = .ok (.iinc 4 1, 3) := by decide +kernel
theorem dS_rim_39 : decode cS_rim 39 = .ok (.goto (-34), 3) := by decide +kernel
theorem dS_rim_42 : decode cS_rim 42 = .ok (.lload_n 2, 1) := by decide +kernel
theorem dS_rim_43 : decode cS_rim 43 = .ok (.aload_n 0, 1) := by decide +kernel
theorem dS_rim_44 : decode cS_rim 44 = .ok (.getfield 18, 3) := by decide +kernel
theorem dS_rim_47 : decode cS_rim 47 = .ok (.land, 1) := by decide +kernel
theorem dS_rim_48 : decode cS_rim 48 = .ok (.aload_n 0, 1) := by decide +kernel
theorem dS_rim_49 : decode cS_rim 49 = .ok (.getfield 15, 3) := by decide +kernel
theorem dS_rim_52 : decode cS_rim 52 = .ok (.iload_n 1, 1) := by decide +kernel
theorem dS_rim_53 : decode cS_rim 53 = .ok (.laload, 1) := by decide +kernel
theorem dS_rim_54 : decode cS_rim 54 = .ok (.iload_n 1, 1) := by decide +kernel
theorem dS_rim_55 : decode cS_rim 55 = .ok (.invokestatic 22, 3) := by decide +kernel
theorem dS_rim_58 : decode cS_rim 58 = .ok (.ldc2_w 26, 3) := by decide +kernel
theorem dS_rim_61 : decode cS_rim 61 = .ok (.lxor, 1) := by decide +kernel
theorem dS_rim_62 : decode cS_rim 62 = .ok (.land, 1) := by decide +kernel
theorem dS_rim_63 : decode cS_rim 63 = .ok (.ldc2_w 26, 3) := by decide +kernel
theorem dS_rim_66 : decode cS_rim 66 = .ok (.lxor, 1) := by decide +kernel
theorem dS_rim_67 : decode cS_rim 67 = .ok (.land, 1) := by decide +kernel
theorem dS_rim_68 : decode cS_rim 68 = .ok (.lreturn, 1) := by decide +kernel
theorem dB_depth_0 : decode cB_depth 0 = .ok (.iload_n 1, 1) := by decide +kernel
theorem dB_depth_1 : decode cB_depth 1 = .ok (.invokestatic 41, 3) := by decide +kernel
theorem dB_depth_4 : decode cB_depth 4 = .ok (.ifCond .eq 17, 3) := by decide +kernel
theorem dB_depth_7 : decode cB_depth 7 = .ok (.aload_n 0, 1) := by decide +kernel
theorem dB_depth_8 : decode cB_depth 8 = .ok (.invokevirtual 78, 3) := by decide +kernel
theorem dB_depth_11 : decode cB_depth 11 = .ok (.invokevirtual 82, 3) := by decide +kernel
theorem dB_depth_14 : decode cB_depth 14 = .ok (.iload_n 1, 1) := by decide +kernel
theorem dB_depth_15 : decode cB_depth 15 = .ok (.invokestatic 45, 3) := by decide +kernel
theorem dB_depth_18 : decode cB_depth 18 = .ok (.ifCond .ne 5, 3) := by decide +kernel
theorem dB_depth_21 : decode cB_depth 21 = .ok (.iconst (-1), 1) := by decide +kernel
theorem dB_depth_22 : decode cB_depth 22 = .ok (.ireturn, 1) := by decide +kernel
theorem dB_depth_23 : decode cB_depth 23 = .ok (.aload_n 0, 1) := by decide +kernel
theorem dB_depth_24 : decode cB_depth 24 = .ok (.invokevirtual 89, 3) := by decide +kernel
theorem dB_depth_27 : decode cB_depth 27 = .ok (.iload_n 1, 1) := by decide +kernel
theorem dB_depth_28 : decode cB_depth 28 = .ok (.invokevirtual 120, 3) := by decide +kernel
theorem dB_depth_31 : decode cB_depth 31 = .ok (.ireturn, 1) := by decide +kernel
theorem dB_joins_0 : decode cB_joins 0 = .ok (.aload_n 0, 1) := by decide +kernel
theorem dB_joins_1 : decode cB_joins 1 = .ok (.invokevirtual 78, 3) := by decide +kernel
theorem dB_joins_4 : decode cB_joins 4 = .ok (.astore_n 3, 1) := by decide +kernel
theorem dB_joins_5 : decode cB_joins 5 = .ok (.lload_n 1, 1) := by decide +kernel
theorem dB_joins_6 : decode cB_joins 6 = .ok (.aload_n 3, 1) := by decide +kernel
theorem dB_joins_7 : decode cB_joins 7 = .ok (.invokevirtual 82, 3) := by decide +kernel
theorem dB_joins_10 : decode cB_joins 10 = .ok (.land, 1) := by decide +kernel
theorem dB_joins_11 : decode cB_joins 11 = .ok (.lstore 4, 2) := by decide +kernel
theorem dB_joins_13 : decode cB_joins 13 = .ok (.lload 4, 2) := by decide +kernel
theorem dB_joins_15 : decode cB_joins 15 = .ok (.lstore 6, 2) := by decide +kernel
theorem dB_joins_17 : decode cB_joins 17 = .ok (.lconst 0, 1) := by decide +kernel
theorem dB_joins_18 : decode cB_joins 18 = .ok (.lstore 8, 2) := by decide +kernel
theorem dB_joins_20 : decode cB_joins 20 = .ok (.lload 4, 2) := by decide +kernel
theorem dB_joins_22 : decode cB_joins 22 = .ok (.invokestatic 133, 3) := by decide +kernel
theorem dB_joins_25 : decode cB_joins 25 = .ok (.istore 10, 2) := by decide +kernel
theorem dB_joins_27 : decode cB_joins 27 = .ok (.iconst 0, 1) := by decide +kernel
theorem dB_joins_28 : decode cB_joins 28 = .ok (.istore 11, 2) := by decide +kernel
theorem dB_joins_30 : decode cB_joins 30 = .ok (.iload 11, 2) := by decide +kernel
theorem dB_joins_32 : decode cB_joins 32 = .ok (.bipush 40, 2) := by decide +kernel
theorem dB_joins_34 : decode cB_joins 34 = .ok (.if_icmp .ge 69, 3) := by decide +kernel
theorem dB_joins_37 : decode cB_joins 37 = .ok (.iload 10, 2) := by decide +kernel
theorem dB_joins_39 : decode cB_joins 39 = .ok (.bipush 40, 2) := by decide +kernel
theorem dB_joins_41 : decode cB_joins 41 = .ok (.if_icmp .ge 62, 3) := by decide +kernel
theorem dB_joins_44 : decode cB_joins 44 = .ok (.aload_n 3, 1) := by decide +kernel
theorem dB_joins_45 : decode cB_joins 45 = .ok (.iload 10, 2) := by decide +kernel
theorem dB_joins_47 : decode cB_joins 47 = .ok (.invokevirtual 114, 3) := by decide +kernel
theorem dB_joins_50 : decode cB_joins 50 = .ok (.lstore 12, 2) := by decide +kernel
theorem dB_joins_52 : decode cB_joins 52 = .ok (.lload 8, 2) := by decide +kernel
theorem dB_joins_54 : decode cB_joins 54 = .ok (.lload 12, 2) := by decide +kernel
theorem dB_joins_56 : decode cB_joins 56 = .ok (.lor, 1) := by decide +kernel
theorem dB_joins_57 : decode cB_joins 57 = .ok (.lstore 8, 2) := by decide +kernel
theorem dB_joins_59 : decode cB_joins 59 = .ok (.lload 4, 2) := by decide +kernel
theorem dB_joins_61 : decode cB_joins 61 = .ok (.iload 10, 2) := by decide +kernel
theorem dB_joins_63 : decode cB_joins 63 = .ok (.invokestatic 49, 3) := by decide +kernel
theorem dB_joins_66 : decode cB_joins 66 = .ok (.ldc2_w 63, 3) := by decide +kernel
theorem dB_joins_69 : decode cB_joins 69 = .ok (.lxor, 1) := by decide +kernel
theorem dB_joins_70 : decode cB_joins 70 = .ok (.land, 1) := by decide +kernel
theorem dB_joins_71 : decode cB_joins 71 = .ok (.lload 12, 2) := by decide +kernel
theorem dB_joins_73 : decode cB_joins 73 = .ok (.lload 6, 2) := by decide +kernel
theorem dB_joins_75 : decode cB_joins 75 = .ok (.ldc2_w 63, 3) := by decide +kernel
theorem dB_joins_78 : decode cB_joins 78 = .ok (.lxor, 1) := by decide +kernel
theorem dB_joins_79 : decode cB_joins 79 = .ok (.land, 1) := by decide +kernel
theorem dB_joins_80 : decode cB_joins 80 = .ok (.lor, 1) := by decide +kernel
theorem dB_joins_81 : decode cB_joins 81 = .ok (.lstore 4, 2) := by decide +kernel
theorem dB_joins_83 : decode cB_joins 83 = .ok (.lload 6, 2) := by decide +kernel
theorem dB_joins_85 : decode cB_joins 85 = .ok (.lload 12, 2) := by decide +kernel
theorem dB_joins_87 : decode cB_joins 87 = .ok (.lor, 1) := by decide +kernel
theorem dB_joins_88 : decode cB_joins 88 = .ok (.lstore 6, 2) := by decide +kernel
theorem dB_joins_90 : decode cB_joins 90 = .ok (.lload 4, 2) := by decide +kernel
theorem dB_joins_92 : decode cB_joins 92 = .ok (.invokestatic 133, 3) := by decide +kernel
theorem dB_joins_95 : decode cB_joins 95 = .ok (.istore 10, 2) := by decide +kernel
theorem dB_joins_97 : decode cB_joins 97 = .ok (.iinc 11 1, 3) := by decide +kernel
theorem dB_joins_100 : decode cB_joins 100 = .ok (.goto (-70), 3) := by decide +kernel
theorem dB_joins_103 : decode cB_joins 103 = .ok (.lload 8, 2) := by decide +kernel
theorem dB_joins_105 : decode cB_joins 105 = .ok (.lreturn, 1) := by decide +kernel
theorem dL_inner_0 : decode cL_inner 0 = .ok (.aload_n 2, 1) := by decide +kernel
theorem dL_inner_1 : decode cL_inner 1 = .ok (.iconst 0, 1) := by decide +kernel
theorem dL_inner_2 : decode cL_inner 2 = .ok (.aload_n 0, 1) := by decide +kernel
theorem dL_inner_3 : decode cL_inner 3 = .ok (.iload_n 1, 1) := by decide +kernel
theorem dL_inner_4 : decode cL_inner 4 = .ok (.invokevirtual 7, 3) := by decide +kernel
theorem dL_inner_7 : decode cL_inner 7 = .ok (.i2l, 1) := by decide +kernel
theorem dL_inner_8 : decode cL_inner 8 = .ok (.lastore, 1) := by decide +kernel
theorem dL_inner_9 : decode cL_inner 9 = .ok (.goto 6, 3) := by decide +kernel
theorem dL_inner_12 : decode cL_inner 12 = .ok (.astore_n 3, 1) := by decide +kernel
theorem dL_inner_13 : decode cL_inner 13 = .ok (.iconst 1, 1) := by decide +kernel
theorem dL_inner_14 : decode cL_inner 14 = .ok (.ireturn, 1) := by decide +kernel
theorem dL_inner_15 : decode cL_inner 15 = .ok (.iconst 0, 1) := by decide +kernel
theorem dL_inner_16 : decode cL_inner 16 = .ok (.ireturn, 1) := by decide +kernel
theorem dB_inner_0 : decode cB_inner 0 = .ok (.iload_n 1, 1) := by decide +kernel
theorem dB_inner_1 : decode cB_inner 1 = .ok (.invokestatic 41, 3) := by decide +kernel
theorem dB_inner_4 : decode cB_inner 4 = .ok (.ifCond .eq 14, 3) := by decide +kernel
theorem dB_inner_7 : decode cB_inner 7 = .ok (.aload_n 0, 1) := by decide +kernel
theorem dB_inner_8 : decode cB_inner 8 = .ok (.invokevirtual 89, 3) := by decide +kernel
theorem dB_inner_11 : decode cB_inner 11 = .ok (.iload_n 1, 1) := by decide +kernel
theorem dB_inner_12 : decode cB_inner 12 = .ok (.invokevirtual 123, 3) := by decide +kernel
theorem dB_inner_15 : decode cB_inner 15 = .ok (.goto 4, 3) := by decide +kernel
theorem dB_inner_18 : decode cB_inner 18 = .ok (.iconst (-1), 1) := by decide +kernel
theorem dB_inner_19 : decode cB_inner 19 = .ok (.istore_n 2, 1) := by decide +kernel
theorem dB_inner_20 : decode cB_inner 20 = .ok (.iload_n 2, 1) := by decide +kernel
theorem dB_inner_21 : decode cB_inner 21 = .ok (.iconst (-1), 1) := by decide +kernel
theorem dB_inner_22 : decode cB_inner 22 = .ok (.if_icmp .ne 13, 3) := by decide +kernel
theorem dB_inner_25 : decode cB_inner 25 = .ok (.new 126, 3) := by decide +kernel
theorem dB_inner_28 : decode cB_inner 28 = .ok (.dup, 1) := by decide +kernel
theorem dB_inner_29 : decode cB_inner 29 = .ok (.ldc 128, 2) := by decide +kernel
theorem dB_inner_31 : decode cB_inner 31 = .ok (.invokespecial 130, 3) := by decide +kernel
theorem dB_inner_34 : decode cB_inner 34 = .ok (.athrow, 1) := by decide +kernel
theorem dB_inner_35 : decode cB_inner 35 = .ok (.iload_n 2, 1) := by decide +kernel
theorem dB_inner_36 : decode cB_inner 36 = .ok (.ireturn, 1) := by decide +kernel
theorem dR_smallestAround_0 : decode cR_smallestAround 0 = .ok (.iconst (-1), 1) := by decide +kernel
theorem dR_smallestAround_1 : decode cR_smallestAround 1 = .ok (.istore_n 2, 1) := by decide +kernel
theorem dR_smallestAround_2 : decode cR_smallestAround 2 = .ok (.bipush 41, 2) := by decide +kernel
theorem dR_smallestAround_4 : decode cR_smallestAround 4 = .ok (.istore_n 3, 1) := by decide +kernel
theorem dR_smallestAround_5 : decode cR_smallestAround 5 = .ok (.iconst 0, 1) := by decide +kernel
theorem dR_smallestAround_6 : decode cR_smallestAround 6 = .ok (.istore 4, 2) := by decide +kernel
theorem dR_smallestAround_8 : decode cR_smallestAround 8 = .ok (.iload 4, 2) := by decide +kernel
theorem dR_smallestAround_10 : decode cR_smallestAround 10 = .ok (.bipush 40, 2) := by decide +kernel
theorem dR_smallestAround_12 : decode cR_smallestAround 12 = .ok (.if_icmp .ge 47, 3) := by decide +kernel
theorem dR_smallestAround_15 : decode cR_smallestAround 15 = .ok (.aload_n 0, 1) := by decide +kernel
theorem dR_smallestAround_16 : decode cR_smallestAround 16 = .ok (.getfield 9, 3) := by decide +kernel
theorem dR_smallestAround_19 : decode cR_smallestAround 19 = .ok (.iload 4, 2) := by decide +kernel
theorem dR_smallestAround_21 : decode cR_smallestAround 21 = .ok (.laload, 1) := by decide +kernel
theorem dR_smallestAround_22 : decode cR_smallestAround 22 = .ok (.invokestatic 51, 3) := by decide +kernel
theorem dR_smallestAround_25 : decode cR_smallestAround 25 = .ok (.istore 5, 2) := by decide +kernel
theorem dR_smallestAround_27 : decode cR_smallestAround 27 = .ok (.aload_n 0, 1) := by decide +kernel
theorem dR_smallestAround_28 : decode cR_smallestAround 28 = .ok (.getfield 9, 3) := by decide +kernel
theorem dR_smallestAround_31 : decode cR_smallestAround 31 = .ok (.iload 4, 2) := by decide +kernel
theorem dR_smallestAround_33 : decode cR_smallestAround 33 = .ok (.laload, 1) := by decide +kernel
theorem dR_smallestAround_34 : decode cR_smallestAround 34 = .ok (.iload_n 1, 1) := by decide +kernel
theorem dR_smallestAround_35 : decode cR_smallestAround 35 = .ok (.invokestatic 37, 3) := by decide +kernel
theorem dR_smallestAround_38 : decode cR_smallestAround 38 = .ok (.ifCond .eq 15, 3) := by decide +kernel
theorem dR_smallestAround_41 : decode cR_smallestAround 41 = .ok (.iload 5, 2) := by decide +kernel
theorem dR_smallestAround_43 : decode cR_smallestAround 43 = .ok (.iload_n 3, 1) := by decide +kernel
theorem dR_smallestAround_44 : decode cR_smallestAround 44 = .ok (.if_icmp .ge 9, 3) := by decide +kernel
theorem dR_smallestAround_47 : decode cR_smallestAround 47 = .ok (.iload 4, 2) := by decide +kernel
theorem dR_smallestAround_49 : decode cR_smallestAround 49 = .ok (.istore_n 2, 1) := by decide +kernel
theorem dR_smallestAround_50 : decode cR_smallestAround 50 = .ok (.iload 5, 2) := by decide +kernel
theorem dR_smallestAround_52 : decode cR_smallestAround 52 = .ok (.istore_n 3, 1) := by decide +kernel
theorem dR_smallestAround_53 : decode cR_smallestAround 53 = .ok (.iinc 4 1, 3) := by decide +kernel
theorem dR_smallestAround_56 : decode cR_smallestAround 56 = .ok (.goto (-48), 3) := by decide +kernel
theorem dR_smallestAround_59 : decode cR_smallestAround 59 = .ok (.iload_n 2, 1) := by decide +kernel
theorem dR_smallestAround_60 : decode cR_smallestAround 60 = .ok (.ireturn, 1) := by decide +kernel
theorem dM_init_0 : decode cM_init 0 = .ok (.aload_n 0, 1) := by decide +kernel
theorem dM_init_1 : decode cM_init 1 = .ok (.invokespecial 1, 3) := by decide +kernel
theorem dM_init_4 : decode cM_init 4 = .ok (.aload_n 0, 1) := by decide +kernel
theorem dM_init_5 : decode cM_init 5 = .ok (.bipush 40, 2) := by decide +kernel
theorem dM_init_7 : decode cM_init 7 = .ok (.newarray .int, 2) := by decide +kernel
theorem dM_init_9 : decode cM_init 9 = .ok (.putfield 7, 3) := by decide +kernel
theorem dM_init_12 : decode cM_init 12 = .ok (.aload_n 0, 1) := by decide +kernel
theorem dM_init_13 : decode cM_init 13 = .ok (.sipush 160, 3) := by decide +kernel
theorem dM_init_16 : decode cM_init 16 = .ok (.newarray .int, 2) := by decide +kernel
theorem dM_init_18 : decode cM_init 18 = .ok (.putfield 13, 3) := by decide +kernel
theorem dM_init_21 : decode cM_init 21 = .ok (.aload_n 0, 1) := by decide +kernel
theorem dM_init_22 : decode cM_init 22 = .ok (.bipush 40, 2) := by decide +kernel
theorem dM_init_24 : decode cM_init 24 = .ok (.newarray .long, 2) := by decide +kernel
theorem dM_init_26 : decode cM_init 26 = .ok (.putfield 16, 3) := by decide +kernel
theorem dM_init_29 : decode cM_init 29 = .ok (.aload_n 0, 1) := by decide +kernel
theorem dM_init_30 : decode cM_init 30 = .ok (.bipush 40, 2) := by decide +kernel
theorem dM_init_32 : decode cM_init 32 = .ok (.newarray .long, 2) := by decide +kernel
theorem dM_init_34 : decode cM_init 34 = .ok (.putfield 20, 3) := by decide +kernel
theorem dM_init_37 : decode cM_init 37 = .ok (.aload_n 0, 1) := by decide +kernel
theorem dM_init_38 : decode cM_init 38 = .ok (.bipush 40, 2) := by decide +kernel
theorem dM_init_40 : decode cM_init 40 = .ok (.newarray .long, 2) := by decide +kernel
theorem dM_init_42 : decode cM_init 42 = .ok (.putfield 23, 3) := by decide +kernel
theorem dM_init_45 : decode cM_init 45 = .ok (.aload_n 0, 1) := by decide +kernel
theorem dM_init_46 : decode cM_init 46 = .ok (.bipush 40, 2) := by decide +kernel
theorem dM_init_48 : decode cM_init 48 = .ok (.newarray .long, 2) := by decide +kernel
theorem dM_init_50 : decode cM_init 50 = .ok (.putfield 26, 3) := by decide +kernel
theorem dM_init_53 : decode cM_init 53 = .ok (.aload_n 0, 1) := by decide +kernel
theorem dM_init_54 : decode cM_init 54 = .ok (.bipush 40, 2) := by decide +kernel
theorem dM_init_56 : decode cM_init 56 = .ok (.newarray .long, 2) := by decide +kernel
theorem dM_init_58 : decode cM_init 58 = .ok (.putfield 29, 3) := by decide +kernel
theorem dM_init_61 : decode cM_init 61 = .ok (.return_, 1) := by decide +kernel
theorem dM_thrown_0 : decode cM_thrown 0 = .ok (.aload_n 0, 1) := by decide +kernel
theorem dM_thrown_1 : decode cM_thrown 1 = .ok (.getfield 32, 3) := by decide +kernel
theorem dM_thrown_4 : decode cM_thrown 4 = .ok (.ireturn, 1) := by decide +kernel
theorem dM_block_0 : decode cM_block 0 = .ok (.aload_n 0, 1) := by decide +kernel
theorem dM_block_1 : decode cM_block 1 = .ok (.iconst 0, 1) := by decide +kernel
theorem dM_block_2 : decode cM_block 2 = .ok (.putfield 32, 3) := by decide +kernel
theorem dM_block_5 : decode cM_block 5 = .ok (.iload_n 1, 1) := by decide +kernel
theorem dM_block_6 : decode cM_block 6 = .ok (.invokestatic 40, 3) := by decide +kernel
theorem dM_block_9 : decode cM_block 9 = .ok (.ifCond .eq 14, 3) := by decide +kernel
theorem dM_block_12 : decode cM_block 12 = .ok (.aload_n 0, 1) := by decide +kernel
theorem dM_block_13 : decode cM_block 13 = .ok (.getfield 44, 3) := by decide +kernel
theorem dM_block_16 : decode cM_block 16 = .ok (.iload_n 1, 1) := by decide +kernel
theorem dM_block_17 : decode cM_block 17 = .ok (.invokestatic 36, 3) := by decide +kernel
theorem dM_block_20 : decode cM_block 20 = .ok (.ifCond .eq 5, 3) := by decide +kernel
theorem dM_block_23 : decode cM_block 23 = .ok (.iconst 0, 1) := by decide +kernel
theorem dM_block_24 : decode cM_block 24 = .ok (.ireturn, 1) := by decide +kernel
theorem dM_block_25 : decode cM_block 25 = .ok (.aload_n 0, 1) := by decide +kernel
theorem dM_block_26 : decode cM_block 26 = .ok (.aload_n 0, 1) := by decide +kernel
theorem dM_block_27 : decode cM_block 27 = .ok (.getfield 44, 3) := by decide +kernel
theorem dM_block_30 : decode cM_block 30 = .ok (.iload_n 1, 1) := by decide +kernel
theorem dM_block_31 : decode cM_block 31 = .ok (.invokestatic 48, 3) := by decide +kernel
theorem dM_block_34 : decode cM_block 34 = .ok (.lor, 1) := by decide +kernel
theorem dM_block_35 : decode cM_block 35 = .ok (.putfield 44, 3) := by decide +kernel
theorem dM_block_38 : decode cM_block 38 = .ok (.aload_n 0, 1) := by decide +kernel
theorem dM_block_39 : decode cM_block 39 = .ok (.getfield 7, 3) := by decide +kernel
theorem dM_block_42 : decode cM_block 42 = .ok (.iload_n 1, 1) := by decide +kernel
theorem dM_block_43 : decode cM_block 43 = .ok (.iconst 0, 1) := by decide +kernel
theorem dM_block_44 : decode cM_block 44 = .ok (.iastore, 1) := by decide +kernel
theorem dM_block_45 : decode cM_block 45 = .ok (.aload_n 0, 1) := by decide +kernel
theorem dM_block_46 : decode cM_block 46 = .ok (.iconst 0, 1) := by decide +kernel
theorem dM_block_47 : decode cM_block 47 = .ok (.putfield 52, 3) := by decide +kernel
theorem dM_block_50 : decode cM_block 50 = .ok (.iconst 1, 1) := by decide +kernel
theorem dM_block_51 : decode cM_block 51 = .ok (.ireturn, 1) := by decide +kernel
theorem dM_isBlock_0 : decode cM_isBlock 0 = .ok (.iload_n 0, 1) := by decide +kernel
theorem dM_isBlock_1 : decode cM_isBlock 1 = .ok (.ifCond .lt 13, 3) := by decide +kernel
theorem dM_isBlock_4 : decode cM_isBlock 4 = .ok (.iload_n 0, 1) := by decide +kernel
theorem dM_isBlock_5 : decode cM_isBlock 5 = .ok (.bipush 40, 2) := by decide +kernel
theorem dM_isBlock_7 : decode cM_isBlock 7 = .ok (.if_icmp .ge 7, 3) := by decide +kernel
theorem dM_isBlock_10 : decode cM_isBlock 10 = .ok (.iconst 1, 1) := by decide +kernel
theorem dM_isBlock_11 : decode cM_isBlock 11 = .ok (.goto 4, 3) := by decide +kernel
theorem dM_isBlock_14 : decode cM_isBlock 14 = .ok (.iconst 0, 1) := by decide +kernel
theorem dM_isBlock_15 : decode cM_isBlock 15 = .ok (.ireturn, 1) := by decide +kernel
theorem dM_is_0 : decode cM_is 0 = .ok (.lload_n 0, 1) := by decide +kernel
theorem dM_is_1 : decode cM_is 1 = .ok (.iload_n 2, 1) := by decide +kernel
theorem dM_is_2 : decode cM_is 2 = .ok (.lshr, 1) := by decide +kernel
theorem dM_is_3 : decode cM_is 3 = .ok (.lconst 1, 1) := by decide +kernel
theorem dM_is_4 : decode cM_is 4 = .ok (.land, 1) := by decide +kernel
theorem dM_is_5 : decode cM_is 5 = .ok (.lconst 1, 1) := by decide +kernel
theorem dM_is_6 : decode cM_is 6 = .ok (.lcmp, 1) := by decide +kernel
theorem dM_is_7 : decode cM_is 7 = .ok (.ifCond .ne 7, 3) := by decide +kernel
theorem dM_is_10 : decode cM_is 10 = .ok (.iconst 1, 1) := by decide +kernel
theorem dM_is_11 : decode cM_is 11 = .ok (.goto 4, 3) := by decide +kernel
theorem dM_is_14 : decode cM_is 14 = .ok (.iconst 0, 1) := by decide +kernel
theorem dM_is_15 : decode cM_is 15 = .ok (.ireturn, 1) := by decide +kernel
theorem dM_bit_0 : decode cM_bit 0 = .ok (.lconst 1, 1) := by decide +kernel
theorem dM_bit_1 : decode cM_bit 1 = .ok (.iload_n 0, 1) := by decide +kernel
theorem dM_bit_2 : decode cM_bit 2 = .ok (.lshl, 1) := by decide +kernel
theorem dM_bit_3 : decode cM_bit 3 = .ok (.lreturn, 1) := by decide +kernel
theorem dM_target_0 : decode cM_target 0 = .ok (.aload_n 0, 1) := by decide +kernel
theorem dM_target_1 : decode cM_target 1 = .ok (.iconst 0, 1) := by decide +kernel
theorem dM_target_2 : decode cM_target 2 = .ok (.putfield 32, 3) := by decide +kernel
theorem dM_target_5 : decode cM_target 5 = .ok (.iload_n 1, 1) := by decide +kernel
theorem dM_target_6 : decode cM_target 6 = .ok (.invokestatic 40, 3) := by decide +kernel
theorem dM_target_9 : decode cM_target 9 = .ok (.ifCond .eq 31, 3) := by decide +kernel
theorem dM_target_12 : decode cM_target 12 = .ok (.iload_n 2, 1) := by decide +kernel
theorem dM_target_13 : decode cM_target 13 = .ok (.invokestatic 40, 3) := by decide +kernel
theorem dM_target_16 : decode cM_target 16 = .ok (.ifCond .eq 24, 3) := by decide +kernel
theorem dM_target_19 : decode cM_target 19 = .ok (.aload_n 0, 1) := by decide +kernel
theorem dM_target_20 : decode cM_target 20 = .ok (.getfield 44, 3) := by decide +kernel
theorem dM_target_23 : decode cM_target 23 = .ok (.iload_n 1, 1) := by decide +kernel
theorem dM_target_24 : decode cM_target 24 = .ok (.invokestatic 36, 3) := by decide +kernel
theorem dM_target_27 : decode cM_target 27 = .ok (.ifCond .eq 13, 3) := by decide +kernel
theorem dM_target_30 : decode cM_target 30 = .ok (.aload_n 0, 1) := by decide +kernel
theorem dM_target_31 : decode cM_target 31 = .ok (.getfield 7, 3) := by decide +kernel
theorem dM_target_34 : decode cM_target 34 = .ok (.iload_n 1, 1) := by decide +kernel
theorem dM_target_35 : decode cM_target 35 = .ok (.iaload, 1) := by decide +kernel
theorem dM_target_36 : decode cM_target 36 = .ok (.iconst 4, 1) := by decide +kernel
theorem dM_target_37 : decode cM_target 37 = .ok (.if_icmp .ne 5, 3) := by decide +kernel
theorem dM_target_40 : decode cM_target 40 = .ok (.iconst 0, 1) := by decide +kernel
theorem dM_target_41 : decode cM_target 41 = .ok (.ireturn, 1) := by decide +kernel
theorem dM_target_42 : decode cM_target 42 = .ok (.aload_n 0, 1) := by decide +kernel
theorem dM_target_43 : decode cM_target 43 = .ok (.getfield 13, 3) := by decide +kernel
theorem dM_target_46 : decode cM_target 46 = .ok (.iconst 4, 1) := by decide +kernel
theorem dM_target_47 : decode cM_target 47 = .ok (.iload_n 1, 1) := by decide +kernel
theorem dM_target_48 : decode cM_target 48 = .ok (.imul, 1) := by decide +kernel
theorem dM_target_49 : decode cM_target 49 = .ok (.aload_n 0, 1) := by decide +kernel
theorem dM_target_50 : decode cM_target 50 = .ok (.getfield 7, 3) := by decide +kernel
theorem dM_target_53 : decode cM_target 53 = .ok (.iload_n 1, 1) := by decide +kernel
theorem dM_target_54 : decode cM_target 54 = .ok (.iaload, 1) := by decide +kernel
theorem dM_target_55 : decode cM_target 55 = .ok (.iadd, 1) := by decide +kernel
theorem dM_target_56 : decode cM_target 56 = .ok (.iload_n 2, 1) := by decide +kernel
theorem dM_target_57 : decode cM_target 57 = .ok (.iastore, 1) := by decide +kernel
theorem dM_target_58 : decode cM_target 58 = .ok (.aload_n 0, 1) := by decide +kernel
theorem dM_target_59 : decode cM_target 59 = .ok (.getfield 7, 3) := by decide +kernel
theorem dM_target_62 : decode cM_target 62 = .ok (.iload_n 1, 1) := by decide +kernel
theorem dM_target_63 : decode cM_target 63 = .ok (.dup2, 1) := by decide +kernel
theorem dM_target_64 : decode cM_target 64 = .ok (.iaload, 1) := by decide +kernel
theorem dM_target_65 : decode cM_target 65 = .ok (.iconst 1, 1) := by decide +kernel
theorem dM_target_66 : decode cM_target 66 = .ok (.iadd, 1) := by decide +kernel
theorem dM_target_67 : decode cM_target 67 = .ok (.iastore, 1) := by decide +kernel
theorem dM_target_68 : decode cM_target 68 = .ok (.aload_n 0, 1) := by decide +kernel
theorem dM_target_69 : decode cM_target 69 = .ok (.iconst 0, 1) := by decide +kernel
theorem dM_target_70 : decode cM_target 70 = .ok (.putfield 52, 3) := by decide +kernel
theorem dM_target_73 : decode cM_target 73 = .ok (.iconst 1, 1) := by decide +kernel
theorem dM_target_74 : decode cM_target 74 = .ok (.ireturn, 1) := by decide +kernel
theorem dM_drop_0 : decode cM_drop 0 = .ok (.aload_n 0, 1) := by decide +kernel
theorem dM_drop_1 : decode cM_drop 1 = .ok (.iconst 0, 1) := by decide +kernel
theorem dM_drop_2 : decode cM_drop 2 = .ok (.putfield 32, 3) := by decide +kernel
theorem dM_drop_5 : decode cM_drop 5 = .ok (.iload_n 1, 1) := by decide +kernel
theorem dM_drop_6 : decode cM_drop 6 = .ok (.invokestatic 40, 3) := by decide +kernel
theorem dM_drop_9 : decode cM_drop 9 = .ok (.ifCond .eq 14, 3) := by decide +kernel
theorem dM_drop_12 : decode cM_drop 12 = .ok (.aload_n 0, 1) := by decide +kernel
theorem dM_drop_13 : decode cM_drop 13 = .ok (.getfield 44, 3) := by decide +kernel
theorem dM_drop_16 : decode cM_drop 16 = .ok (.iload_n 1, 1) := by decide +kernel
theorem dM_drop_17 : decode cM_drop 17 = .ok (.invokestatic 36, 3) := by decide +kernel
theorem dM_drop_20 : decode cM_drop 20 = .ok (.ifCond .ne 5, 3) := by decide +kernel
theorem dM_drop_23 : decode cM_drop 23 = .ok (.iconst 0, 1) := by decide +kernel
theorem dM_drop_24 : decode cM_drop 24 = .ok (.ireturn, 1) := by decide +kernel
theorem dM_drop_25 : decode cM_drop 25 = .ok (.aload_n 0, 1) := by decide +kernel
theorem dM_drop_26 : decode cM_drop 26 = .ok (.aload_n 0, 1) := by decide +kernel
theorem dM_drop_27 : decode cM_drop 27 = .ok (.getfield 44, 3) := by decide +kernel
theorem dM_drop_30 : decode cM_drop 30 = .ok (.iload_n 1, 1) := by decide +kernel
theorem dM_drop_31 : decode cM_drop 31 = .ok (.invokestatic 48, 3) := by decide +kernel
theorem dM_drop_34 : decode cM_drop 34 = .ok (.ldc2_w 56, 3) := by decide +kernel
theorem dM_drop_37 : decode cM_drop 37 = .ok (.lxor, 1) := by decide +kernel
theorem dM_drop_38 : decode cM_drop 38 = .ok (.land, 1) := by decide +kernel
theorem dM_drop_39 : decode cM_drop 39 = .ok (.putfield 44, 3) := by decide +kernel
theorem dM_drop_42 : decode cM_drop 42 = .ok (.aload_n 0, 1) := by decide +kernel
theorem dM_drop_43 : decode cM_drop 43 = .ok (.iconst 0, 1) := by decide +kernel
theorem dM_drop_44 : decode cM_drop 44 = .ok (.putfield 52, 3) := by decide +kernel
theorem dM_drop_47 : decode cM_drop 47 = .ok (.iconst 1, 1) := by decide +kernel
theorem dM_drop_48 : decode cM_drop 48 = .ok (.ireturn, 1) := by decide +kernel
theorem dM_count_0 : decode cM_count 0 = .ok (.aload_n 0, 1) := by decide +kernel
theorem dM_count_1 : decode cM_count 1 = .ok (.iconst 0, 1) := by decide +kernel
theorem dM_count_2 : decode cM_count 2 = .ok (.putfield 32, 3) := by decide +kernel
theorem dM_count_5 : decode cM_count 5 = .ok (.aload_n 0, 1) := by decide +kernel
theorem dM_count_6 : decode cM_count 6 = .ok (.invokevirtual 86, 3) := by decide +kernel
theorem dM_count_9 : decode cM_count 9 = .ok (.iload_n 1, 1) := by decide +kernel
theorem dM_count_10 : decode cM_count 10 = .ok (.tableswitch 120 0 5 #[38, 46, 54, 62, 70, 107], 38) := by decide +kernel
theorem dM_count_48 : decode cM_count 48 = .ok (.aload_n 0, 1) := by decide +kernel
theorem dM_count_49 : decode cM_count 49 = .ok (.getfield 44, 3) := by decide +kernel
theorem dM_count_52 : decode cM_count 52 = .ok (.invokestatic 89, 3) := by decide +kernel
theorem dM_count_55 : decode cM_count 55 = .ok (.ireturn, 1) := by decide +kernel
theorem dM_count_56 : decode cM_count 56 = .ok (.aload_n 0, 1) := by decide +kernel
theorem dM_count_57 : decode cM_count 57 = .ok (.getfield 64, 3) := by decide +kernel
theorem dM_count_60 : decode cM_count 60 = .ok (.invokestatic 89, 3) := by decide +kernel
theorem dM_count_63 : decode cM_count 63 = .ok (.ireturn, 1) := by decide +kernel
theorem dM_count_64 : decode cM_count 64 = .ok (.aload_n 0, 1) := by decide +kernel
theorem dM_count_65 : decode cM_count 65 = .ok (.getfield 71, 3) := by decide +kernel
theorem dM_count_68 : decode cM_count 68 = .ok (.invokestatic 89, 3) := by decide +kernel
theorem dM_count_71 : decode cM_count 71 = .ok (.ireturn, 1) := by decide +kernel
theorem dM_count_72 : decode cM_count 72 = .ok (.aload_n 0, 1) := by decide +kernel
theorem dM_count_73 : decode cM_count 73 = .ok (.getfield 80, 3) := by decide +kernel
theorem dM_count_76 : decode cM_count 76 = .ok (.invokestatic 89, 3) := by decide +kernel
theorem dM_count_79 : decode cM_count 79 = .ok (.ireturn, 1) := by decide +kernel
theorem dM_count_80 : decode cM_count 80 = .ok (.iconst 0, 1) := by decide +kernel
theorem dM_count_81 : decode cM_count 81 = .ok (.istore_n 2, 1) := by decide +kernel
theorem dM_count_82 : decode cM_count 82 = .ok (.iconst 0, 1) := by decide +kernel
theorem dM_count_83 : decode cM_count 83 = .ok (.istore_n 3, 1) := by decide +kernel
theorem dM_count_84 : decode cM_count 84 = .ok (.iload_n 3, 1) := by decide +kernel
theorem dM_count_85 : decode cM_count 85 = .ok (.bipush 40, 2) := by decide +kernel
theorem dM_count_87 : decode cM_count 87 = .ok (.if_icmp .ge 28, 3) := by decide +kernel
theorem dM_count_90 : decode cM_count 90 = .ok (.aload_n 0, 1) := by decide +kernel
theorem dM_count_91 : decode cM_count 91 = .ok (.iload_n 3, 1) := by decide +kernel
theorem dM_count_92 : decode cM_count 92 = .ok (.invokevirtual 93, 3) := by decide +kernel
theorem dM_count_95 : decode cM_count 95 = .ok (.iload_n 2, 1) := by decide +kernel
theorem dM_count_96 : decode cM_count 96 = .ok (.if_icmp .le 11, 3) := by decide +kernel
theorem dM_count_99 : decode cM_count 99 = .ok (.aload_n 0, 1) := by decide +kernel
theorem dM_count_100 : decode cM_count 100 = .ok (.iload_n 3, 1) := by decide +kernel
theorem dM_count_101 : decode cM_count 101 = .ok (.invokevirtual 93, 3) := by decide +kernel
theorem dM_count_104 : decode cM_count 104 = .ok (.goto 4, 3) := by decide +kernel
theorem dM_count_107 : decode cM_count 107 = .ok (.iload_n 2, 1) := by decide +kernel
theorem dM_count_108 : decode cM_count 108 = .ok (.istore_n 2, 1) := by decide +kernel
theorem dM_count_109 : decode cM_count 109 = .ok (.iinc 3 1, 3) := by decide +kernel
theorem dM_count_112 : decode cM_count 112 = .ok (.goto (-28), 3) := by decide +kernel
theorem dM_count_115 : decode cM_count 115 = .ok (.iload_n 2, 1) := by decide +kernel
theorem dM_count_116 : decode cM_count 116 = .ok (.ireturn, 1) := by decide +kernel
theorem dM_count_117 : decode cM_count 117 = .ok (.aload_n 0, 1) := by decide +kernel
theorem dM_count_118 : decode cM_count 118 = .ok (.getfield 83, 3) := by decide +kernel
theorem dM_count_121 : decode cM_count 121 = .ok (.ifCond .eq 7, 3) := by decide +kernel
theorem dM_count_124 : decode cM_count 124 = .ok (.iconst 1, 1) := by decide +kernel
theorem dM_count_125 : decode cM_count 125 = .ok (.goto 4, 3) := by decide +kernel
theorem dM_count_128 : decode cM_count 128 = .ok (.iconst 0, 1) := by decide +kernel
theorem dM_count_129 : decode cM_count 129 = .ok (.ireturn, 1) := by decide +kernel
theorem dM_count_130 : decode cM_count 130 = .ok (.iconst (-1), 1) := by decide +kernel
theorem dM_count_131 : decode cM_count 131 = .ok (.ireturn, 1) := by decide +kernel
theorem dM_look_0 : decode cM_look 0 = .ok (.aload_n 0, 1) := by decide +kernel
theorem dM_look_1 : decode cM_look 1 = .ok (.getfield 52, 3) := by decide +kernel
theorem dM_look_4 : decode cM_look 4 = .ok (.ifCond .eq 4, 3) := by decide +kernel
theorem dM_look_7 : decode cM_look 7 = .ok (.return_, 1) := by decide +kernel
theorem dM_look_8 : decode cM_look 8 = .ok (.aload_n 0, 1) := by decide +kernel
theorem dM_look_9 : decode cM_look 9 = .ok (.iconst 1, 1) := by decide +kernel
theorem dM_look_10 : decode cM_look 10 = .ok (.putfield 52, 3) := by decide +kernel
theorem dM_look_13 : decode cM_look 13 = .ok (.aload_n 0, 1) := by decide +kernel
theorem dM_look_14 : decode cM_look 14 = .ok (.lconst 0, 1) := by decide +kernel
theorem dM_look_15 : decode cM_look 15 = .ok (.putfield 58, 3) := by decide +kernel
theorem dM_look_18 : decode cM_look 18 = .ok (.iconst 0, 1) := by decide +kernel
theorem dM_look_19 : decode cM_look 19 = .ok (.istore_n 1, 1) := by decide +kernel
theorem dM_look_20 : decode cM_look 20 = .ok (.iload_n 1, 1) := by decide +kernel
theorem dM_look_21 : decode cM_look 21 = .ok (.bipush 40, 2) := by decide +kernel
theorem dM_look_23 : decode cM_look 23 = .ok (.if_icmp .ge 130, 3) := by decide +kernel
theorem dM_look_26 : decode cM_look 26 = .ok (.aload_n 0, 1) := by decide +kernel
theorem dM_look_27 : decode cM_look 27 = .ok (.getfield 16, 3) := by decide +kernel
theorem dM_look_30 : decode cM_look 30 = .ok (.iload_n 1, 1) := by decide +kernel
theorem dM_look_31 : decode cM_look 31 = .ok (.lconst 0, 1) := by decide +kernel
theorem dM_look_32 : decode cM_look 32 = .ok (.lastore, 1) := by decide +kernel
theorem dM_look_33 : decode cM_look 33 = .ok (.iconst 0, 1) := by decide +kernel
theorem dM_look_34 : decode cM_look 34 = .ok (.istore_n 2, 1) := by decide +kernel
theorem dM_look_35 : decode cM_look 35 = .ok (.aload_n 0, 1) := by decide +kernel
theorem dM_look_36 : decode cM_look 36 = .ok (.getfield 44, 3) := by decide +kernel
theorem dM_look_39 : decode cM_look 39 = .ok (.iload_n 1, 1) := by decide +kernel
theorem dM_look_40 : decode cM_look 40 = .ok (.invokestatic 36, 3) := by decide +kernel
theorem dM_look_43 : decode cM_look 43 = .ok (.ifCond .eq 50, 3) := by decide +kernel
theorem dM_look_46 : decode cM_look 46 = .ok (.iload_n 2, 1) := by decide +kernel
theorem dM_look_47 : decode cM_look 47 = .ok (.aload_n 0, 1) := by decide +kernel
theorem dM_look_48 : decode cM_look 48 = .ok (.getfield 7, 3) := by decide +kernel
theorem dM_look_51 : decode cM_look 51 = .ok (.iload_n 1, 1) := by decide +kernel
theorem dM_look_52 : decode cM_look 52 = .ok (.iaload, 1) := by decide +kernel
theorem dM_look_53 : decode cM_look 53 = .ok (.if_icmp .ge 40, 3) := by decide +kernel
theorem dM_look_56 : decode cM_look 56 = .ok (.aload_n 0, 1) := by decide +kernel
theorem dM_look_57 : decode cM_look 57 = .ok (.getfield 16, 3) := by decide +kernel
theorem dM_look_60 : decode cM_look 60 = .ok (.iload_n 1, 1) := by decide +kernel
theorem dM_look_61 : decode cM_look 61 = .ok (.aload_n 0, 1) := by decide +kernel
theorem dM_look_62 : decode cM_look 62 = .ok (.getfield 16, 3) := by decide +kernel
theorem dM_look_65 : decode cM_look 65 = .ok (.iload_n 1, 1) := by decide +kernel
theorem dM_look_66 : decode cM_look 66 = .ok (.laload, 1) := by decide +kernel
theorem dM_look_67 : decode cM_look 67 = .ok (.aload_n 0, 1) := by decide +kernel
theorem dM_look_68 : decode cM_look 68 = .ok (.getfield 13, 3) := by decide +kernel
theorem dM_look_71 : decode cM_look 71 = .ok (.iconst 4, 1) := by decide +kernel
theorem dM_look_72 : decode cM_look 72 = .ok (.iload_n 1, 1) := by decide +kernel
theorem dM_look_73 : decode cM_look 73 = .ok (.imul, 1) := by decide +kernel
