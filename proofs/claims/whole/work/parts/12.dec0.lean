theorem dB_init_0 : decode cB_init 0 = .ok (.aload_n 0, 1) := by decide +kernel
theorem dB_init_1 : decode cB_init 1 = .ok (.invokespecial 1, 3) := by decide +kernel
theorem dB_init_4 : decode cB_init 4 = .ok (.aload_n 0, 1) := by decide +kernel
theorem dB_init_5 : decode cB_init 5 = .ok (.lconst 0, 1) := by decide +kernel
theorem dB_init_6 : decode cB_init 6 = .ok (.putfield 7, 3) := by decide +kernel
theorem dB_init_9 : decode cB_init 9 = .ok (.aload_n 0, 1) := by decide +kernel
theorem dB_init_10 : decode cB_init 10 = .ok (.bipush 40, 2) := by decide +kernel
theorem dB_init_12 : decode cB_init 12 = .ok (.newarray .int, 2) := by decide +kernel
theorem dB_init_14 : decode cB_init 14 = .ok (.putfield 13, 3) := by decide +kernel
theorem dB_init_17 : decode cB_init 17 = .ok (.aload_n 0, 1) := by decide +kernel
theorem dB_init_18 : decode cB_init 18 = .ok (.new 17, 3) := by decide +kernel
theorem dB_init_21 : decode cB_init 21 = .ok (.dup, 1) := by decide +kernel
theorem dB_init_22 : decode cB_init 22 = .ok (.invokespecial 19, 3) := by decide +kernel
theorem dB_init_25 : decode cB_init 25 = .ok (.putfield 20, 3) := by decide +kernel
theorem dB_init_28 : decode cB_init 28 = .ok (.aload_n 0, 1) := by decide +kernel
theorem dB_init_29 : decode cB_init 29 = .ok (.new 17, 3) := by decide +kernel
theorem dB_init_32 : decode cB_init 32 = .ok (.dup, 1) := by decide +kernel
theorem dB_init_33 : decode cB_init 33 = .ok (.invokespecial 19, 3) := by decide +kernel
theorem dB_init_36 : decode cB_init 36 = .ok (.putfield 24, 3) := by decide +kernel
theorem dB_init_39 : decode cB_init 39 = .ok (.aload_n 0, 1) := by decide +kernel
theorem dB_init_40 : decode cB_init 40 = .ok (.new 27, 3) := by decide +kernel
theorem dB_init_43 : decode cB_init 43 = .ok (.dup, 1) := by decide +kernel
theorem dB_init_44 : decode cB_init 44 = .ok (.invokespecial 29, 3) := by decide +kernel
theorem dB_init_47 : decode cB_init 47 = .ok (.putfield 30, 3) := by decide +kernel
theorem dB_init_50 : decode cB_init 50 = .ok (.aload_n 0, 1) := by decide +kernel
theorem dB_init_51 : decode cB_init 51 = .ok (.iconst 0, 1) := by decide +kernel
theorem dB_init_52 : decode cB_init 52 = .ok (.putfield 34, 3) := by decide +kernel
theorem dB_init_55 : decode cB_init 55 = .ok (.aload_n 0, 1) := by decide +kernel
theorem dB_init_56 : decode cB_init 56 = .ok (.iconst 0, 1) := by decide +kernel
theorem dB_init_57 : decode cB_init 57 = .ok (.putfield 38, 3) := by decide +kernel
theorem dB_init_60 : decode cB_init 60 = .ok (.return_, 1) := by decide +kernel
theorem dS_init_0 : decode cS_init 0 = .ok (.aload_n 0, 1) := by decide +kernel
theorem dS_init_1 : decode cS_init 1 = .ok (.invokespecial 3, 3) := by decide +kernel
theorem dS_init_4 : decode cS_init 4 = .ok (.aload_n 0, 1) := by decide +kernel
theorem dS_init_5 : decode cS_init 5 = .ok (.bipush 40, 2) := by decide +kernel
theorem dS_init_7 : decode cS_init 7 = .ok (.newarray .long, 2) := by decide +kernel
theorem dS_init_9 : decode cS_init 9 = .ok (.putfield 9, 3) := by decide +kernel
theorem dS_init_12 : decode cS_init 12 = .ok (.aload_n 0, 1) := by decide +kernel
theorem dS_init_13 : decode cS_init 13 = .ok (.bipush 40, 2) := by decide +kernel
theorem dS_init_15 : decode cS_init 15 = .ok (.newarray .long, 2) := by decide +kernel
theorem dS_init_17 : decode cS_init 17 = .ok (.putfield 15, 3) := by decide +kernel
theorem dS_init_20 : decode cS_init 20 = .ok (.aload_n 0, 1) := by decide +kernel
theorem dS_init_21 : decode cS_init 21 = .ok (.lconst 0, 1) := by decide +kernel
theorem dS_init_22 : decode cS_init 22 = .ok (.putfield 18, 3) := by decide +kernel
theorem dS_init_25 : decode cS_init 25 = .ok (.return_, 1) := by decide +kernel
theorem dR_init_0 : decode cR_init 0 = .ok (.aload_n 0, 1) := by decide +kernel
theorem dR_init_1 : decode cR_init 1 = .ok (.invokespecial 3, 3) := by decide +kernel
theorem dR_init_4 : decode cR_init 4 = .ok (.aload_n 0, 1) := by decide +kernel
theorem dR_init_5 : decode cR_init 5 = .ok (.bipush 40, 2) := by decide +kernel
theorem dR_init_7 : decode cR_init 7 = .ok (.newarray .long, 2) := by decide +kernel
theorem dR_init_9 : decode cR_init 9 = .ok (.putfield 9, 3) := by decide +kernel
theorem dR_init_12 : decode cR_init 12 = .ok (.return_, 1) := by decide +kernel
theorem dB_block_0 : decode cB_block 0 = .ok (.iload_n 1, 1) := by decide +kernel
theorem dB_block_1 : decode cB_block 1 = .ok (.invokestatic 41, 3) := by decide +kernel
theorem dB_block_4 : decode cB_block 4 = .ok (.ifCond .eq 14, 3) := by decide +kernel
theorem dB_block_7 : decode cB_block 7 = .ok (.aload_n 0, 1) := by decide +kernel
theorem dB_block_8 : decode cB_block 8 = .ok (.getfield 7, 3) := by decide +kernel
theorem dB_block_11 : decode cB_block 11 = .ok (.iload_n 1, 1) := by decide +kernel
theorem dB_block_12 : decode cB_block 12 = .ok (.invokestatic 45, 3) := by decide +kernel
theorem dB_block_15 : decode cB_block 15 = .ok (.ifCond .eq 5, 3) := by decide +kernel
theorem dB_block_18 : decode cB_block 18 = .ok (.iconst 0, 1) := by decide +kernel
theorem dB_block_19 : decode cB_block 19 = .ok (.ireturn, 1) := by decide +kernel
theorem dB_block_20 : decode cB_block 20 = .ok (.aload_n 0, 1) := by decide +kernel
theorem dB_block_21 : decode cB_block 21 = .ok (.dup, 1) := by decide +kernel
theorem dB_block_22 : decode cB_block 22 = .ok (.getfield 7, 3) := by decide +kernel
theorem dB_block_25 : decode cB_block 25 = .ok (.iload_n 1, 1) := by decide +kernel
theorem dB_block_26 : decode cB_block 26 = .ok (.invokestatic 49, 3) := by decide +kernel
theorem dB_block_29 : decode cB_block 29 = .ok (.lor, 1) := by decide +kernel
theorem dB_block_30 : decode cB_block 30 = .ok (.putfield 7, 3) := by decide +kernel
theorem dB_block_33 : decode cB_block 33 = .ok (.aload_n 0, 1) := by decide +kernel
theorem dB_block_34 : decode cB_block 34 = .ok (.invokevirtual 53, 3) := by decide +kernel
theorem dB_block_37 : decode cB_block 37 = .ok (.iconst 1, 1) := by decide +kernel
theorem dB_block_38 : decode cB_block 38 = .ok (.ireturn, 1) := by decide +kernel
theorem dB_isBlock_0 : decode cB_isBlock 0 = .ok (.iload_n 0, 1) := by decide +kernel
theorem dB_isBlock_1 : decode cB_isBlock 1 = .ok (.ifCond .lt 13, 3) := by decide +kernel
theorem dB_isBlock_4 : decode cB_isBlock 4 = .ok (.iload_n 0, 1) := by decide +kernel
theorem dB_isBlock_5 : decode cB_isBlock 5 = .ok (.bipush 40, 2) := by decide +kernel
theorem dB_isBlock_7 : decode cB_isBlock 7 = .ok (.if_icmp .ge 7, 3) := by decide +kernel
theorem dB_isBlock_10 : decode cB_isBlock 10 = .ok (.iconst 1, 1) := by decide +kernel
theorem dB_isBlock_11 : decode cB_isBlock 11 = .ok (.goto 4, 3) := by decide +kernel
theorem dB_isBlock_14 : decode cB_isBlock 14 = .ok (.iconst 0, 1) := by decide +kernel
theorem dB_isBlock_15 : decode cB_isBlock 15 = .ok (.ireturn, 1) := by decide +kernel
theorem dB_has_0 : decode cB_has 0 = .ok (.lload_n 0, 1) := by decide +kernel
theorem dB_has_1 : decode cB_has 1 = .ok (.iload_n 2, 1) := by decide +kernel
theorem dB_has_2 : decode cB_has 2 = .ok (.invokestatic 49, 3) := by decide +kernel
theorem dB_has_5 : decode cB_has 5 = .ok (.land, 1) := by decide +kernel
theorem dB_has_6 : decode cB_has 6 = .ok (.lconst 0, 1) := by decide +kernel
theorem dB_has_7 : decode cB_has 7 = .ok (.lcmp, 1) := by decide +kernel
theorem dB_has_8 : decode cB_has 8 = .ok (.ifCond .eq 7, 3) := by decide +kernel
theorem dB_has_11 : decode cB_has 11 = .ok (.iconst 1, 1) := by decide +kernel
theorem dB_has_12 : decode cB_has 12 = .ok (.goto 4, 3) := by decide +kernel
theorem dB_has_15 : decode cB_has 15 = .ok (.iconst 0, 1) := by decide +kernel
theorem dB_has_16 : decode cB_has 16 = .ok (.ireturn, 1) := by decide +kernel
theorem dB_bit_0 : decode cB_bit 0 = .ok (.lconst 1, 1) := by decide +kernel
theorem dB_bit_1 : decode cB_bit 1 = .ok (.iload_n 0, 1) := by decide +kernel
theorem dB_bit_2 : decode cB_bit 2 = .ok (.lshl, 1) := by decide +kernel
theorem dB_bit_3 : decode cB_bit 3 = .ok (.lreturn, 1) := by decide +kernel
theorem dB_forgetAnswers_0 : decode cB_forgetAnswers 0 = .ok (.aload_n 0, 1) := by decide +kernel
theorem dB_forgetAnswers_1 : decode cB_forgetAnswers 1 = .ok (.iconst 1, 1) := by decide +kernel
theorem dB_forgetAnswers_2 : decode cB_forgetAnswers 2 = .ok (.putfield 34, 3) := by decide +kernel
theorem dB_forgetAnswers_5 : decode cB_forgetAnswers 5 = .ok (.aload_n 0, 1) := by decide +kernel
theorem dB_forgetAnswers_6 : decode cB_forgetAnswers 6 = .ok (.iconst 1, 1) := by decide +kernel
theorem dB_forgetAnswers_7 : decode cB_forgetAnswers 7 = .ok (.putfield 38, 3) := by decide +kernel
theorem dB_forgetAnswers_10 : decode cB_forgetAnswers 10 = .ok (.return_, 1) := by decide +kernel
theorem dB_target_0 : decode cB_target 0 = .ok (.aload_n 0, 1) := by decide +kernel
theorem dB_target_1 : decode cB_target 1 = .ok (.iload_n 1, 1) := by decide +kernel
theorem dB_target_2 : decode cB_target 2 = .ok (.invokevirtual 56, 3) := by decide +kernel
theorem dB_target_5 : decode cB_target 5 = .ok (.ifCond .eq 20, 3) := by decide +kernel
theorem dB_target_8 : decode cB_target 8 = .ok (.iload_n 2, 1) := by decide +kernel
theorem dB_target_9 : decode cB_target 9 = .ok (.invokestatic 41, 3) := by decide +kernel
theorem dB_target_12 : decode cB_target 12 = .ok (.ifCond .eq 13, 3) := by decide +kernel
theorem dB_target_15 : decode cB_target 15 = .ok (.aload_n 0, 1) := by decide +kernel
theorem dB_target_16 : decode cB_target 16 = .ok (.getfield 13, 3) := by decide +kernel
theorem dB_target_19 : decode cB_target 19 = .ok (.iload_n 1, 1) := by decide +kernel
theorem dB_target_20 : decode cB_target 20 = .ok (.iaload, 1) := by decide +kernel
theorem dB_target_21 : decode cB_target 21 = .ok (.iconst 4, 1) := by decide +kernel
theorem dB_target_22 : decode cB_target 22 = .ok (.if_icmp .lt 5, 3) := by decide +kernel
theorem dB_target_25 : decode cB_target 25 = .ok (.iconst 0, 1) := by decide +kernel
theorem dB_target_26 : decode cB_target 26 = .ok (.ireturn, 1) := by decide +kernel
theorem dB_target_27 : decode cB_target 27 = .ok (.aload_n 0, 1) := by decide +kernel
theorem dB_target_28 : decode cB_target 28 = .ok (.getfield 13, 3) := by decide +kernel
theorem dB_target_31 : decode cB_target 31 = .ok (.iload_n 1, 1) := by decide +kernel
theorem dB_target_32 : decode cB_target 32 = .ok (.dup2, 1) := by decide +kernel
theorem dB_target_33 : decode cB_target 33 = .ok (.iaload, 1) := by decide +kernel
theorem dB_target_34 : decode cB_target 34 = .ok (.iconst 1, 1) := by decide +kernel
theorem dB_target_35 : decode cB_target 35 = .ok (.iadd, 1) := by decide +kernel
theorem dB_target_36 : decode cB_target 36 = .ok (.iastore, 1) := by decide +kernel
theorem dB_target_37 : decode cB_target 37 = .ok (.aload_n 0, 1) := by decide +kernel
theorem dB_target_38 : decode cB_target 38 = .ok (.getfield 20, 3) := by decide +kernel
theorem dB_target_41 : decode cB_target 41 = .ok (.iload_n 1, 1) := by decide +kernel
theorem dB_target_42 : decode cB_target 42 = .ok (.iload_n 2, 1) := by decide +kernel
theorem dB_target_43 : decode cB_target 43 = .ok (.invokevirtual 59, 3) := by decide +kernel
theorem dB_target_46 : decode cB_target 46 = .ok (.aload_n 0, 1) := by decide +kernel
theorem dB_target_47 : decode cB_target 47 = .ok (.getfield 24, 3) := by decide +kernel
theorem dB_target_50 : decode cB_target 50 = .ok (.iload_n 2, 1) := by decide +kernel
theorem dB_target_51 : decode cB_target 51 = .ok (.iload_n 1, 1) := by decide +kernel
theorem dB_target_52 : decode cB_target 52 = .ok (.invokevirtual 59, 3) := by decide +kernel
theorem dB_target_55 : decode cB_target 55 = .ok (.aload_n 0, 1) := by decide +kernel
theorem dB_target_56 : decode cB_target 56 = .ok (.invokevirtual 53, 3) := by decide +kernel
theorem dB_target_59 : decode cB_target 59 = .ok (.iconst 1, 1) := by decide +kernel
theorem dB_target_60 : decode cB_target 60 = .ok (.ireturn, 1) := by decide +kernel
theorem dB_isTold_0 : decode cB_isTold 0 = .ok (.iload_n 1, 1) := by decide +kernel
theorem dB_isTold_1 : decode cB_isTold 1 = .ok (.invokestatic 41, 3) := by decide +kernel
theorem dB_isTold_4 : decode cB_isTold 4 = .ok (.ifCond .eq 18, 3) := by decide +kernel
theorem dB_isTold_7 : decode cB_isTold 7 = .ok (.aload_n 0, 1) := by decide +kernel
theorem dB_isTold_8 : decode cB_isTold 8 = .ok (.getfield 7, 3) := by decide +kernel
theorem dB_isTold_11 : decode cB_isTold 11 = .ok (.iload_n 1, 1) := by decide +kernel
theorem dB_isTold_12 : decode cB_isTold 12 = .ok (.invokestatic 45, 3) := by decide +kernel
theorem dB_isTold_15 : decode cB_isTold 15 = .ok (.ifCond .eq 7, 3) := by decide +kernel
theorem dB_isTold_18 : decode cB_isTold 18 = .ok (.iconst 1, 1) := by decide +kernel
theorem dB_isTold_19 : decode cB_isTold 19 = .ok (.goto 4, 3) := by decide +kernel
theorem dB_isTold_22 : decode cB_isTold 22 = .ok (.iconst 0, 1) := by decide +kernel
theorem dB_isTold_23 : decode cB_isTold 23 = .ok (.ireturn, 1) := by decide +kernel
theorem dS_addStep_0 : decode cS_addStep 0 = .ok (.aload_n 0, 1) := by decide +kernel
theorem dS_addStep_1 : decode cS_addStep 1 = .ok (.getfield 9, 3) := by decide +kernel
theorem dS_addStep_4 : decode cS_addStep 4 = .ok (.iload_n 1, 1) := by decide +kernel
theorem dS_addStep_5 : decode cS_addStep 5 = .ok (.dup2, 1) := by decide +kernel
theorem dS_addStep_6 : decode cS_addStep 6 = .ok (.laload, 1) := by decide +kernel
theorem dS_addStep_7 : decode cS_addStep 7 = .ok (.iload_n 2, 1) := by decide +kernel
theorem dS_addStep_8 : decode cS_addStep 8 = .ok (.invokestatic 22, 3) := by decide +kernel
theorem dS_addStep_11 : decode cS_addStep 11 = .ok (.lor, 1) := by decide +kernel
theorem dS_addStep_12 : decode cS_addStep 12 = .ok (.lastore, 1) := by decide +kernel
theorem dS_addStep_13 : decode cS_addStep 13 = .ok (.return_, 1) := by decide +kernel
theorem dB_drop_0 : decode cB_drop 0 = .ok (.aload_n 0, 1) := by decide +kernel
theorem dB_drop_1 : decode cB_drop 1 = .ok (.iload_n 1, 1) := by decide +kernel
theorem dB_drop_2 : decode cB_drop 2 = .ok (.invokevirtual 56, 3) := by decide +kernel
theorem dB_drop_5 : decode cB_drop 5 = .ok (.ifCond .ne 5, 3) := by decide +kernel
theorem dB_drop_8 : decode cB_drop 8 = .ok (.iconst 0, 1) := by decide +kernel
theorem dB_drop_9 : decode cB_drop 9 = .ok (.ireturn, 1) := by decide +kernel
theorem dB_drop_10 : decode cB_drop 10 = .ok (.aload_n 0, 1) := by decide +kernel
theorem dB_drop_11 : decode cB_drop 11 = .ok (.dup, 1) := by decide +kernel
theorem dB_drop_12 : decode cB_drop 12 = .ok (.getfield 7, 3) := by decide +kernel
theorem dB_drop_15 : decode cB_drop 15 = .ok (.iload_n 1, 1) := by decide +kernel
theorem dB_drop_16 : decode cB_drop 16 = .ok (.invokestatic 49, 3) := by decide +kernel
theorem dB_drop_19 : decode cB_drop 19 = .ok (.ldc2_w 63, 3) := by decide +kernel
theorem dB_drop_22 : decode cB_drop 22 = .ok (.lxor, 1) := by decide +kernel
theorem dB_drop_23 : decode cB_drop 23 = .ok (.land, 1) := by decide +kernel
theorem dB_drop_24 : decode cB_drop 24 = .ok (.putfield 7, 3) := by decide +kernel
theorem dB_drop_27 : decode cB_drop 27 = .ok (.aload_n 0, 1) := by decide +kernel
theorem dB_drop_28 : decode cB_drop 28 = .ok (.getfield 13, 3) := by decide +kernel
theorem dB_drop_31 : decode cB_drop 31 = .ok (.iload_n 1, 1) := by decide +kernel
theorem dB_drop_32 : decode cB_drop 32 = .ok (.iconst 0, 1) := by decide +kernel
theorem dB_drop_33 : decode cB_drop 33 = .ok (.iastore, 1) := by decide +kernel
theorem dB_drop_34 : decode cB_drop 34 = .ok (.aload_n 0, 1) := by decide +kernel
theorem dB_drop_35 : decode cB_drop 35 = .ok (.getfield 20, 3) := by decide +kernel
theorem dB_drop_38 : decode cB_drop 38 = .ok (.iload_n 1, 1) := by decide +kernel
theorem dB_drop_39 : decode cB_drop 39 = .ok (.invokevirtual 65, 3) := by decide +kernel
theorem dB_drop_42 : decode cB_drop 42 = .ok (.aload_n 0, 1) := by decide +kernel
theorem dB_drop_43 : decode cB_drop 43 = .ok (.getfield 24, 3) := by decide +kernel
theorem dB_drop_46 : decode cB_drop 46 = .ok (.iload_n 1, 1) := by decide +kernel
theorem dB_drop_47 : decode cB_drop 47 = .ok (.invokevirtual 69, 3) := by decide +kernel
theorem dB_drop_50 : decode cB_drop 50 = .ok (.aload_n 0, 1) := by decide +kernel
theorem dB_drop_51 : decode cB_drop 51 = .ok (.invokevirtual 53, 3) := by decide +kernel
theorem dB_drop_54 : decode cB_drop 54 = .ok (.iconst 1, 1) := by decide +kernel
theorem dB_drop_55 : decode cB_drop 55 = .ok (.ireturn, 1) := by decide +kernel
theorem dS_removeStepsFrom_0 : decode cS_removeStepsFrom 0 = .ok (.aload_n 0, 1) := by decide +kernel
theorem dS_removeStepsFrom_1 : decode cS_removeStepsFrom 1 = .ok (.getfield 9, 3) := by decide +kernel
theorem dS_removeStepsFrom_4 : decode cS_removeStepsFrom 4 = .ok (.iload_n 1, 1) := by decide +kernel
theorem dS_removeStepsFrom_5 : decode cS_removeStepsFrom 5 = .ok (.lconst 0, 1) := by decide +kernel
theorem dS_removeStepsFrom_6 : decode cS_removeStepsFrom 6 = .ok (.lastore, 1) := by decide +kernel
theorem dS_removeStepsFrom_7 : decode cS_removeStepsFrom 7 = .ok (.return_, 1) := by decide +kernel
theorem dS_removeStepsTo_0 : decode cS_removeStepsTo 0 = .ok (.iconst 0, 1) := by decide +kernel
theorem dS_removeStepsTo_1 : decode cS_removeStepsTo 1 = .ok (.istore_n 2, 1) := by decide +kernel
theorem dS_removeStepsTo_2 : decode cS_removeStepsTo 2 = .ok (.iload_n 2, 1) := by decide +kernel
theorem dS_removeStepsTo_3 : decode cS_removeStepsTo 3 = .ok (.bipush 40, 2) := by decide +kernel
theorem dS_removeStepsTo_5 : decode cS_removeStepsTo 5 = .ok (.if_icmp .ge 26, 3) := by decide +kernel
theorem dS_removeStepsTo_8 : decode cS_removeStepsTo 8 = .ok (.aload_n 0, 1) := by decide +kernel
theorem dS_removeStepsTo_9 : decode cS_removeStepsTo 9 = .ok (.getfield 9, 3) := by decide +kernel
theorem dS_removeStepsTo_12 : decode cS_removeStepsTo 12 = .ok (.iload_n 2, 1) := by decide +kernel
theorem dS_removeStepsTo_13 : decode cS_removeStepsTo 13 = .ok (.dup2, 1) := by decide +kernel
theorem dS_removeStepsTo_14 : decode cS_removeStepsTo 14 = .ok (.laload, 1) := by decide +kernel
theorem dS_removeStepsTo_15 : decode cS_removeStepsTo 15 = .ok (.iload_n 1, 1) := by decide +kernel
theorem dS_removeStepsTo_16 : decode cS_removeStepsTo 16 = .ok (.invokestatic 22, 3) := by decide +kernel
theorem dS_removeStepsTo_19 : decode cS_removeStepsTo 19 = .ok (.ldc2_w 26, 3) := by decide +kernel
theorem dS_removeStepsTo_22 : decode cS_removeStepsTo 22 = .ok (.lxor, 1) := by decide +kernel
theorem dS_removeStepsTo_23 : decode cS_removeStepsTo 23 = .ok (.land, 1) := by decide +kernel
theorem dS_removeStepsTo_24 : decode cS_removeStepsTo 24 = .ok (.lastore, 1) := by decide +kernel
theorem dS_removeStepsTo_25 : decode cS_removeStepsTo 25 = .ok (.iinc 2 1, 3) := by decide +kernel
theorem dS_removeStepsTo_28 : decode cS_removeStepsTo 28 = .ok (.goto (-26), 3) := by decide +kernel
theorem dS_removeStepsTo_31 : decode cS_removeStepsTo 31 = .ok (.return_, 1) := by decide +kernel
theorem dB_count_0 : decode cB_count 0 = .ok (.iload_n 1, 1) := by decide +kernel
theorem dB_count_1 : decode cB_count 1 = .ok (.tableswitch 98 0 5 #[39, 47, 58, 69, 77, 85], 39) := by decide +kernel
theorem dB_count_40 : decode cB_count 40 = .ok (.aload_n 0, 1) := by decide +kernel
theorem dB_count_41 : decode cB_count 41 = .ok (.getfield 7, 3) := by decide +kernel
theorem dB_count_44 : decode cB_count 44 = .ok (.invokestatic 72, 3) := by decide +kernel
theorem dB_count_47 : decode cB_count 47 = .ok (.ireturn, 1) := by decide +kernel
theorem dB_count_48 : decode cB_count 48 = .ok (.aload_n 0, 1) := by decide +kernel
theorem dB_count_49 : decode cB_count 49 = .ok (.invokevirtual 78, 3) := by decide +kernel
theorem dB_count_52 : decode cB_count 52 = .ok (.invokevirtual 82, 3) := by decide +kernel
theorem dB_count_55 : decode cB_count 55 = .ok (.invokestatic 72, 3) := by decide +kernel
theorem dB_count_58 : decode cB_count 58 = .ok (.ireturn, 1) := by decide +kernel
theorem dB_count_59 : decode cB_count 59 = .ok (.aload_n 0, 1) := by decide +kernel
theorem dB_count_60 : decode cB_count 60 = .ok (.invokevirtual 86, 3) := by decide +kernel
theorem dB_count_63 : decode cB_count 63 = .ok (.invokevirtual 82, 3) := by decide +kernel
theorem dB_count_66 : decode cB_count 66 = .ok (.invokestatic 72, 3) := by decide +kernel
theorem dB_count_69 : decode cB_count 69 = .ok (.ireturn, 1) := by decide +kernel
theorem dB_count_70 : decode cB_count 70 = .ok (.aload_n 0, 1) := by decide +kernel
theorem dB_count_71 : decode cB_count 71 = .ok (.invokevirtual 89, 3) := by decide +kernel
theorem dB_count_74 : decode cB_count 74 = .ok (.invokevirtual 93, 3) := by decide +kernel
theorem dB_count_77 : decode cB_count 77 = .ok (.ireturn, 1) := by decide +kernel
theorem dB_count_78 : decode cB_count 78 = .ok (.aload_n 0, 1) := by decide +kernel
theorem dB_count_79 : decode cB_count 79 = .ok (.invokevirtual 89, 3) := by decide +kernel
theorem dB_count_82 : decode cB_count 82 = .ok (.invokevirtual 97, 3) := by decide +kernel
theorem dB_count_85 : decode cB_count 85 = .ok (.ireturn, 1) := by decide +kernel
theorem dB_count_86 : decode cB_count 86 = .ok (.aload_n 0, 1) := by decide +kernel
theorem dB_count_87 : decode cB_count 87 = .ok (.invokevirtual 100, 3) := by decide +kernel
theorem dB_count_90 : decode cB_count 90 = .ok (.ifCond .eq 7, 3) := by decide +kernel
theorem dB_count_93 : decode cB_count 93 = .ok (.iconst 1, 1) := by decide +kernel
theorem dB_count_94 : decode cB_count 94 = .ok (.goto 4, 3) := by decide +kernel
theorem dB_count_97 : decode cB_count 97 = .ok (.iconst 0, 1) := by decide +kernel
theorem dB_count_98 : decode cB_count 98 = .ok (.ireturn, 1) := by decide +kernel
theorem dB_count_99 : decode cB_count 99 = .ok (.iconst (-1), 1) := by decide +kernel
theorem dB_count_100 : decode cB_count 100 = .ok (.ireturn, 1) := by decide +kernel
theorem dJ_bitCount_0 : decode cJ_bitCount 0 = .ok (.lload_n 0, 1) := by decide +kernel
theorem dJ_bitCount_1 : decode cJ_bitCount 1 = .ok (.lload_n 0, 1) := by decide +kernel
theorem dJ_bitCount_2 : decode cJ_bitCount 2 = .ok (.iconst 1, 1) := by decide +kernel
theorem dJ_bitCount_3 : decode cJ_bitCount 3 = .ok (.lushr, 1) := by decide +kernel
theorem dJ_bitCount_4 : decode cJ_bitCount 4 = .ok (.ldc2_w 314, 3) := by decide +kernel
theorem dJ_bitCount_7 : decode cJ_bitCount 7 = .ok (.land, 1) := by decide +kernel
theorem dJ_bitCount_8 : decode cJ_bitCount 8 = .ok (.lsub, 1) := by decide +kernel
theorem dJ_bitCount_9 : decode cJ_bitCount 9 = .ok (.lstore_n 0, 1) := by decide +kernel
theorem dJ_bitCount_10 : decode cJ_bitCount 10 = .ok (.lload_n 0, 1) := by decide +kernel
theorem dJ_bitCount_11 : decode cJ_bitCount 11 = .ok (.ldc2_w 316, 3) := by decide +kernel
theorem dJ_bitCount_14 : decode cJ_bitCount 14 = .ok (.land, 1) := by decide +kernel
theorem dJ_bitCount_15 : decode cJ_bitCount 15 = .ok (.lload_n 0, 1) := by decide +kernel
theorem dJ_bitCount_16 : decode cJ_bitCount 16 = .ok (.iconst 2, 1) := by decide +kernel
theorem dJ_bitCount_17 : decode cJ_bitCount 17 = .ok (.lushr, 1) := by decide +kernel
theorem dJ_bitCount_18 : decode cJ_bitCount 18 = .ok (.ldc2_w 316, 3) := by decide +kernel
theorem dJ_bitCount_21 : decode cJ_bitCount 21 = .ok (.land, 1) := by decide +kernel
theorem dJ_bitCount_22 : decode cJ_bitCount 22 = .ok (.ladd, 1) := by decide +kernel
theorem dJ_bitCount_23 : decode cJ_bitCount 23 = .ok (.lstore_n 0, 1) := by decide +kernel
theorem dJ_bitCount_24 : decode cJ_bitCount 24 = .ok (.lload_n 0, 1) := by decide +kernel
theorem dJ_bitCount_25 : decode cJ_bitCount 25 = .ok (.lload_n 0, 1) := by decide +kernel
theorem dJ_bitCount_26 : decode cJ_bitCount 26 = .ok (.iconst 4, 1) := by decide +kernel
theorem dJ_bitCount_27 : decode cJ_bitCount 27 = .ok (.lushr, 1) := by decide +kernel
theorem dJ_bitCount_28 : decode cJ_bitCount 28 = .ok (.ladd, 1) := by decide +kernel
theorem dJ_bitCount_29 : decode cJ_bitCount 29 = .ok (.ldc2_w 318, 3) := by decide +kernel
theorem dJ_bitCount_32 : decode cJ_bitCount 32 = .ok (.land, 1) := by decide +kernel
theorem dJ_bitCount_33 : decode cJ_bitCount 33 = .ok (.lstore_n 0, 1) := by decide +kernel
theorem dJ_bitCount_34 : decode cJ_bitCount 34 = .ok (.lload_n 0, 1) := by decide +kernel
theorem dJ_bitCount_35 : decode cJ_bitCount 35 = .ok (.lload_n 0, 1) := by decide +kernel
theorem dJ_bitCount_36 : decode cJ_bitCount 36 = .ok (.bipush 8, 2) := by decide +kernel
theorem dJ_bitCount_38 : decode cJ_bitCount 38 = .ok (.lushr, 1) := by decide +kernel
theorem dJ_bitCount_39 : decode cJ_bitCount 39 = .ok (.ladd, 1) := by decide +kernel
theorem dJ_bitCount_40 : decode cJ_bitCount 40 = .ok (.lstore_n 0, 1) := by decide +kernel
theorem dJ_bitCount_41 : decode cJ_bitCount 41 = .ok (.lload_n 0, 1) := by decide +kernel
theorem dJ_bitCount_42 : decode cJ_bitCount 42 = .ok (.lload_n 0, 1) := by decide +kernel
theorem dJ_bitCount_43 : decode cJ_bitCount 43 = .ok (.bipush 16, 2) := by decide +kernel
theorem dJ_bitCount_45 : decode cJ_bitCount 45 = .ok (.lushr, 1) := by decide +kernel
theorem dJ_bitCount_46 : decode cJ_bitCount 46 = .ok (.ladd, 1) := by decide +kernel
theorem dJ_bitCount_47 : decode cJ_bitCount 47 = .ok (.lstore_n 0, 1) := by decide +kernel
theorem dJ_bitCount_48 : decode cJ_bitCount 48 = .ok (.lload_n 0, 1) := by decide +kernel
theorem dJ_bitCount_49 : decode cJ_bitCount 49 = .ok (.lload_n 0, 1) := by decide +kernel
theorem dJ_bitCount_50 : decode cJ_bitCount 50 = .ok (.bipush 32, 2) := by decide +kernel
theorem dJ_bitCount_52 : decode cJ_bitCount 52 = .ok (.lushr, 1) := by decide +kernel
theorem dJ_bitCount_53 : decode cJ_bitCount 53 = .ok (.ladd, 1) := by decide +kernel
theorem dJ_bitCount_54 : decode cJ_bitCount 54 = .ok (.lstore_n 0, 1) := by decide +kernel
theorem dJ_bitCount_55 : decode cJ_bitCount 55 = .ok (.lload_n 0, 1) := by decide +kernel
theorem dJ_bitCount_56 : decode cJ_bitCount 56 = .ok (.l2i, 1) := by decide +kernel
theorem dJ_bitCount_57 : decode cJ_bitCount 57 = .ok (.bipush 127, 2) := by decide +kernel
theorem dJ_bitCount_59 : decode cJ_bitCount 59 = .ok (.iand, 1) := by decide +kernel
theorem dJ_bitCount_60 : decode cJ_bitCount 60 = .ok (.ireturn, 1) := by decide +kernel
theorem dB_freshOnward_0 : decode cB_freshOnward 0 = .ok (.aload_n 0, 1) := by decide +kernel
theorem dB_freshOnward_1 : decode cB_freshOnward 1 = .ok (.invokevirtual 136, 3) := by decide +kernel
theorem dB_freshOnward_4 : decode cB_freshOnward 4 = .ok (.aload_n 0, 1) := by decide +kernel
theorem dB_freshOnward_5 : decode cB_freshOnward 5 = .ok (.getfield 20, 3) := by decide +kernel
theorem dB_freshOnward_8 : decode cB_freshOnward 8 = .ok (.areturn, 1) := by decide +kernel
theorem dB_renewOnward_0 : decode cB_renewOnward 0 = .ok (.aload_n 0, 1) := by decide +kernel
theorem dB_renewOnward_1 : decode cB_renewOnward 1 = .ok (.getfield 34, 3) := by decide +kernel
theorem dB_renewOnward_4 : decode cB_renewOnward 4 = .ok (.ifCond .eq 38, 3) := by decide +kernel
theorem dB_renewOnward_7 : decode cB_renewOnward 7 = .ok (.aload_n 0, 1) := by decide +kernel
theorem dB_renewOnward_8 : decode cB_renewOnward 8 = .ok (.getfield 20, 3) := by decide +kernel
theorem dB_renewOnward_11 : decode cB_renewOnward 11 = .ok (.iconst 0, 1) := by decide +kernel
theorem dB_renewOnward_12 : decode cB_renewOnward 12 = .ok (.invokestatic 49, 3) := by decide +kernel
theorem dB_renewOnward_15 : decode cB_renewOnward 15 = .ok (.aload_n 0, 1) := by decide +kernel
theorem dB_renewOnward_16 : decode cB_renewOnward 16 = .ok (.getfield 7, 3) := by decide +kernel
theorem dB_renewOnward_19 : decode cB_renewOnward 19 = .ok (.invokevirtual 139, 3) := by decide +kernel
theorem dB_renewOnward_22 : decode cB_renewOnward 22 = .ok (.aload_n 0, 1) := by decide +kernel
theorem dB_renewOnward_23 : decode cB_renewOnward 23 = .ok (.getfield 30, 3) := by decide +kernel
theorem dB_renewOnward_26 : decode cB_renewOnward 26 = .ok (.aload_n 0, 1) := by decide +kernel
theorem dB_renewOnward_27 : decode cB_renewOnward 27 = .ok (.getfield 20, 3) := by decide +kernel
theorem dB_renewOnward_30 : decode cB_renewOnward 30 = .ok (.aload_n 0, 1) := by decide +kernel
theorem dB_renewOnward_31 : decode cB_renewOnward 31 = .ok (.getfield 24, 3) := by decide +kernel
theorem dB_renewOnward_34 : decode cB_renewOnward 34 = .ok (.invokevirtual 143, 3) := by decide +kernel
theorem dB_renewOnward_37 : decode cB_renewOnward 37 = .ok (.aload_n 0, 1) := by decide +kernel
theorem dB_renewOnward_38 : decode cB_renewOnward 38 = .ok (.iconst 0, 1) := by decide +kernel
theorem dB_renewOnward_39 : decode cB_renewOnward 39 = .ok (.putfield 34, 3) := by decide +kernel
theorem dB_renewOnward_42 : decode cB_renewOnward 42 = .ok (.return_, 1) := by decide +kernel
theorem dS_renew_0 : decode cS_renew 0 = .ok (.aload_n 0, 1) := by decide +kernel
theorem dS_renew_1 : decode cS_renew 1 = .ok (.aload_n 0, 1) := by decide +kernel
theorem dS_renew_2 : decode cS_renew 2 = .ok (.lload_n 1, 1) := by decide +kernel
theorem dS_renew_3 : decode cS_renew 3 = .ok (.lload_n 3, 1) := by decide +kernel
theorem dS_renew_4 : decode cS_renew 4 = .ok (.invokevirtual 28, 3) := by decide +kernel
theorem dS_renew_7 : decode cS_renew 7 = .ok (.putfield 18, 3) := by decide +kernel
theorem dS_renew_10 : decode cS_renew 10 = .ok (.iconst 0, 1) := by decide +kernel
theorem dS_renew_11 : decode cS_renew 11 = .ok (.istore 5, 2) := by decide +kernel
theorem dS_renew_13 : decode cS_renew 13 = .ok (.iload 5, 2) := by decide +kernel
theorem dS_renew_15 : decode cS_renew 15 = .ok (.bipush 40, 2) := by decide +kernel
theorem dS_renew_17 : decode cS_renew 17 = .ok (.if_icmp .ge 60, 3) := by decide +kernel
theorem dS_renew_20 : decode cS_renew 20 = .ok (.aload_n 0, 1) := by decide +kernel
theorem dS_renew_21 : decode cS_renew 21 = .ok (.getfield 15, 3) := by decide +kernel
theorem dS_renew_24 : decode cS_renew 24 = .ok (.iload 5, 2) := by decide +kernel
theorem dS_renew_26 : decode cS_renew 26 = .ok (.aload_n 0, 1) := by decide +kernel
theorem dS_renew_27 : decode cS_renew 27 = .ok (.getfield 18, 3) := by decide +kernel
theorem dS_renew_30 : decode cS_renew 30 = .ok (.iload 5, 2) := by decide +kernel
theorem dS_renew_32 : decode cS_renew 32 = .ok (.invokestatic 32, 3) := by decide +kernel
theorem dS_renew_35 : decode cS_renew 35 = .ok (.ifCond .eq 34, 3) := by decide +kernel
theorem dS_renew_38 : decode cS_renew 38 = .ok (.aload_n 0, 1) := by decide +kernel
theorem dS_renew_39 : decode cS_renew 39 = .ok (.getfield 18, 3) := by decide +kernel
theorem dS_renew_42 : decode cS_renew 42 = .ok (.aload_n 0, 1) := by decide +kernel
theorem dS_renew_43 : decode cS_renew 43 = .ok (.lload_n 1, 1) := by decide +kernel
theorem dS_renew_44 : decode cS_renew 44 = .ok (.aload_n 0, 1) := by decide +kernel
theorem dS_renew_45 : decode cS_renew 45 = .ok (.getfield 18, 3) := by decide +kernel
theorem dS_renew_48 : decode cS_renew 48 = .ok (.iload 5, 2) := by decide +kernel
theorem dS_renew_50 : decode cS_renew 50 = .ok (.invokestatic 22, 3) := by decide +kernel
theorem dS_renew_53 : decode cS_renew 53 = .ok (.ldc2_w 26, 3) := by decide +kernel
theorem dS_renew_56 : decode cS_renew 56 = .ok (.lxor, 1) := by decide +kernel
theorem dS_renew_57 : decode cS_renew 57 = .ok (.land, 1) := by decide +kernel
theorem dS_renew_58 : decode cS_renew 58 = .ok (.invokevirtual 28, 3) := by decide +kernel
theorem dS_renew_61 : decode cS_renew 61 = .ok (.ldc2_w 26, 3) := by decide +kernel
theorem dS_renew_64 : decode cS_renew 64 = .ok (.lxor, 1) := by decide +kernel
theorem dS_renew_65 : decode cS_renew 65 = .ok (.land, 1) := by decide +kernel
theorem dS_renew_66 : decode cS_renew 66 = .ok (.goto 4, 3) := by decide +kernel
theorem dS_renew_69 : decode cS_renew 69 = .ok (.lconst 0, 1) := by decide +kernel
theorem dS_renew_70 : decode cS_renew 70 = .ok (.lastore, 1) := by decide +kernel
theorem dS_renew_71 : decode cS_renew 71 = .ok (.iinc 5 1, 3) := by decide +kernel
theorem dS_renew_74 : decode cS_renew 74 = .ok (.goto (-61), 3) := by decide +kernel
theorem dS_renew_77 : decode cS_renew 77 = .ok (.return_, 1) := by decide +kernel
theorem dS_flood_0 : decode cS_flood 0 = .ok (.lload_n 1, 1) := by decide +kernel
theorem dS_flood_1 : decode cS_flood 1 = .ok (.lload_n 3, 1) := by decide +kernel
theorem dS_flood_2 : decode cS_flood 2 = .ok (.land, 1) := by decide +kernel
theorem dS_flood_3 : decode cS_flood 3 = .ok (.lstore 5, 2) := by decide +kernel
theorem dS_flood_5 : decode cS_flood 5 = .ok (.lload 5, 2) := by decide +kernel
theorem dS_flood_7 : decode cS_flood 7 = .ok (.lstore 7, 2) := by decide +kernel
theorem dS_flood_9 : decode cS_flood 9 = .ok (.lload 7, 2) := by decide +kernel
theorem dS_flood_11 : decode cS_flood 11 = .ok (.invokestatic 36, 3) := by decide +kernel
theorem dS_flood_14 : decode cS_flood 14 = .ok (.istore 9, 2) := by decide +kernel
theorem dS_flood_16 : decode cS_flood 16 = .ok (.iconst 0, 1) := by decide +kernel
theorem dS_flood_17 : decode cS_flood 17 = .ok (.istore 10, 2) := by decide +kernel
theorem dS_flood_19 : decode cS_flood 19 = .ok (.iload 10, 2) := by decide +kernel
theorem dS_flood_21 : decode cS_flood 21 = .ok (.bipush 40, 2) := by decide +kernel
theorem dS_flood_23 : decode cS_flood 23 = .ok (.if_icmp .ge 65, 3) := by decide +kernel
theorem dS_flood_26 : decode cS_flood 26 = .ok (.iload 9, 2) := by decide +kernel
theorem dS_flood_28 : decode cS_flood 28 = .ok (.bipush 40, 2) := by decide +kernel
theorem dS_flood_30 : decode cS_flood 30 = .ok (.if_icmp .ge 58, 3) := by decide +kernel
theorem dS_flood_33 : decode cS_flood 33 = .ok (.aload_n 0, 1) := by decide +kernel
theorem dS_flood_34 : decode cS_flood 34 = .ok (.getfield 9, 3) := by decide +kernel
theorem dS_flood_37 : decode cS_flood 37 = .ok (.iload 9, 2) := by decide +kernel
theorem dS_flood_39 : decode cS_flood 39 = .ok (.laload, 1) := by decide +kernel
theorem dS_flood_40 : decode cS_flood 40 = .ok (.lload_n 3, 1) := by decide +kernel
theorem dS_flood_41 : decode cS_flood 41 = .ok (.land, 1) := by decide +kernel
theorem dS_flood_42 : decode cS_flood 42 = .ok (.lload 5, 2) := by decide +kernel
theorem dS_flood_44 : decode cS_flood 44 = .ok (.ldc2_w 26, 3) := by decide +kernel
theorem dS_flood_47 : decode cS_flood 47 = .ok (.lxor, 1) := by decide +kernel
theorem dS_flood_48 : decode cS_flood 48 = .ok (.land, 1) := by decide +kernel
theorem dS_flood_49 : decode cS_flood 49 = .ok (.lstore 11, 2) := by decide +kernel
theorem dS_flood_51 : decode cS_flood 51 = .ok (.lload 5, 2) := by decide +kernel
theorem dS_flood_53 : decode cS_flood 53 = .ok (.lload 11, 2) := by decide +kernel
theorem dS_flood_55 : decode cS_flood 55 = .ok (.lor, 1) := by decide +kernel
theorem dS_flood_56 : decode cS_flood 56 = .ok (.lstore 5, 2) := by decide +kernel
theorem dS_flood_58 : decode cS_flood 58 = .ok (.lload 7, 2) := by decide +kernel
theorem dS_flood_60 : decode cS_flood 60 = .ok (.iload 9, 2) := by decide +kernel
theorem dS_flood_62 : decode cS_flood 62 = .ok (.invokestatic 22, 3) := by decide +kernel
theorem dS_flood_65 : decode cS_flood 65 = .ok (.ldc2_w 26, 3) := by decide +kernel
theorem dS_flood_68 : decode cS_flood 68 = .ok (.lxor, 1) := by decide +kernel
theorem dS_flood_69 : decode cS_flood 69 = .ok (.land, 1) := by decide +kernel
theorem dS_flood_70 : decode cS_flood 70 = .ok (.lload 11, 2) := by decide +kernel
theorem dS_flood_72 : decode cS_flood 72 = .ok (.lor, 1) := by decide +kernel
theorem dS_flood_73 : decode cS_flood 73 = .ok (.lstore 7, 2) := by decide +kernel
theorem dS_flood_75 : decode cS_flood 75 = .ok (.lload 7, 2) := by decide +kernel
theorem dS_flood_77 : decode cS_flood 77 = .ok (.invokestatic 36, 3) := by decide +kernel
theorem dS_flood_80 : decode cS_flood 80 = .ok (.istore 9, 2) := by decide +kernel
theorem dS_flood_82 : decode cS_flood 82 = .ok (.iinc 10 1, 3) := by decide +kernel
theorem dS_flood_85 : decode cS_flood 85 = .ok (.goto (-66), 3) := by decide +kernel
theorem dS_flood_88 : decode cS_flood 88 = .ok (.lload 5, 2) := by decide +kernel
theorem dS_flood_90 : decode cS_flood 90 = .ok (.lreturn, 1) := by decide +kernel
theorem dB_lowest_0 : decode cB_lowest 0 = .ok (.lload_n 0, 1) := by decide +kernel
theorem dB_lowest_1 : decode cB_lowest 1 = .ok (.lload_n 0, 1) := by decide +kernel
theorem dB_lowest_2 : decode cB_lowest 2 = .ok (.lneg, 1) := by decide +kernel
theorem dB_lowest_3 : decode cB_lowest 3 = .ok (.land, 1) := by decide +kernel
theorem dB_lowest_4 : decode cB_lowest 4 = .ok (.lconst 1, 1) := by decide +kernel
theorem dB_lowest_5 : decode cB_lowest 5 = .ok (.lsub, 1) := by decide +kernel
theorem dB_lowest_6 : decode cB_lowest 6 = .ok (.invokestatic 72, 3) := by decide +kernel
theorem dB_lowest_9 : decode cB_lowest 9 = .ok (.ireturn, 1) := by decide +kernel
theorem dR_renew_0 : decode cR_renew 0 = .ok (.iconst 0, 1) := by decide +kernel
theorem dR_renew_1 : decode cR_renew 1 = .ok (.istore_n 3, 1) := by decide +kernel
theorem dR_renew_2 : decode cR_renew 2 = .ok (.iload_n 3, 1) := by decide +kernel
theorem dR_renew_3 : decode cR_renew 3 = .ok (.bipush 40, 2) := by decide +kernel
theorem dR_renew_5 : decode cR_renew 5 = .ok (.if_icmp .ge 67, 3) := by decide +kernel
theorem dR_renew_8 : decode cR_renew 8 = .ok (.aload_n 2, 1) := by decide +kernel
theorem dR_renew_9 : decode cR_renew 9 = .ok (.iload_n 3, 1) := by decide +kernel
theorem dR_renew_10 : decode cR_renew 10 = .ok (.invokevirtual 15, 3) := by decide +kernel
theorem dR_renew_13 : decode cR_renew 13 = .ok (.aload_n 1, 1) := by decide +kernel
theorem dR_renew_14 : decode cR_renew 14 = .ok (.iload_n 3, 1) := by decide +kernel
theorem dR_renew_15 : decode cR_renew 15 = .ok (.invokevirtual 21, 3) := by decide +kernel
theorem dR_renew_18 : decode cR_renew 18 = .ok (.land, 1) := by decide +kernel
theorem dR_renew_19 : decode cR_renew 19 = .ok (.lstore 4, 2) := by decide +kernel
theorem dR_renew_21 : decode cR_renew 21 = .ok (.aload_n 2, 1) := by decide +kernel
theorem dR_renew_22 : decode cR_renew 22 = .ok (.lload 4, 2) := by decide +kernel
theorem dR_renew_24 : decode cR_renew 24 = .ok (.aload_n 1, 1) := by decide +kernel
theorem dR_renew_25 : decode cR_renew 25 = .ok (.invokevirtual 24, 3) := by decide +kernel
theorem dR_renew_28 : decode cR_renew 28 = .ok (.iload_n 3, 1) := by decide +kernel
theorem dR_renew_29 : decode cR_renew 29 = .ok (.invokestatic 28, 3) := by decide +kernel
theorem dR_renew_32 : decode cR_renew 32 = .ok (.ldc2_w 31, 3) := by decide +kernel
theorem dR_renew_35 : decode cR_renew 35 = .ok (.lxor, 1) := by decide +kernel
theorem dR_renew_36 : decode cR_renew 36 = .ok (.land, 1) := by decide +kernel
theorem dR_renew_37 : decode cR_renew 37 = .ok (.invokevirtual 33, 3) := by decide +kernel
theorem dR_renew_40 : decode cR_renew 40 = .ok (.lstore 6, 2) := by decide +kernel
theorem dR_renew_42 : decode cR_renew 42 = .ok (.aload_n 0, 1) := by decide +kernel
theorem dR_renew_43 : decode cR_renew 43 = .ok (.getfield 9, 3) := by decide +kernel
theorem dR_renew_46 : decode cR_renew 46 = .ok (.iload_n 3, 1) := by decide +kernel
theorem dR_renew_47 : decode cR_renew 47 = .ok (.lload 4, 2) := by decide +kernel
theorem dR_renew_49 : decode cR_renew 49 = .ok (.lconst 0, 1) := by decide +kernel
theorem dR_renew_50 : decode cR_renew 50 = .ok (.lcmp, 1) := by decide +kernel
theorem dR_renew_51 : decode cR_renew 51 = .ok (.ifCond .ne 7, 3) := by decide +kernel
theorem dR_renew_54 : decode cR_renew 54 = .ok (.lconst 0, 1) := by decide +kernel
theorem dR_renew_55 : decode cR_renew 55 = .ok (.goto 10, 3) := by decide +kernel
theorem dR_renew_58 : decode cR_renew 58 = .ok (.lload 6, 2) := by decide +kernel
theorem dR_renew_60 : decode cR_renew 60 = .ok (.iload_n 3, 1) := by decide +kernel
theorem dR_renew_61 : decode cR_renew 61 = .ok (.invokestatic 28, 3) := by decide +kernel
theorem dR_renew_64 : decode cR_renew 64 = .ok (.lor, 1) := by decide +kernel
theorem dR_renew_65 : decode cR_renew 65 = .ok (.lastore, 1) := by decide +kernel
theorem dR_renew_66 : decode cR_renew 66 = .ok (.iinc 3 1, 3) := by decide +kernel
theorem dR_renew_69 : decode cR_renew 69 = .ok (.goto (-67), 3) := by decide +kernel
theorem dR_renew_72 : decode cR_renew 72 = .ok (.return_, 1) := by decide +kernel
theorem dS_stepsOf_0 : decode cS_stepsOf 0 = .ok (.aload_n 0, 1) := by decide +kernel
theorem dS_stepsOf_1 : decode cS_stepsOf 1 = .ok (.getfield 9, 3) := by decide +kernel
theorem dS_stepsOf_4 : decode cS_stepsOf 4 = .ok (.iload_n 1, 1) := by decide +kernel
theorem dS_stepsOf_5 : decode cS_stepsOf 5 = .ok (.laload, 1) := by decide +kernel
theorem dS_stepsOf_6 : decode cS_stepsOf 6 = .ok (.lreturn, 1) := by decide +kernel
theorem dS_gated_0 : decode cS_gated 0 = .ok (.aload_n 0, 1) := by decide +kernel
theorem dS_gated_1 : decode cS_gated 1 = .ok (.getfield 15, 3) := by decide +kernel
theorem dS_gated_4 : decode cS_gated 4 = .ok (.iload_n 1, 1) := by decide +kernel
theorem dS_gated_5 : decode cS_gated 5 = .ok (.laload, 1) := by decide +kernel
theorem dS_gated_6 : decode cS_gated 6 = .ok (.lreturn, 1) := by decide +kernel
theorem dS_covered_0 : decode cS_covered 0 = .ok (.aload_n 0, 1) := by decide +kernel
theorem dS_covered_1 : decode cS_covered 1 = .ok (.getfield 18, 3) := by decide +kernel
theorem dS_covered_4 : decode cS_covered 4 = .ok (.lreturn, 1) := by decide +kernel
theorem dB_freshBackward_0 : decode cB_freshBackward 0 = .ok (.aload_n 0, 1) := by decide +kernel
theorem dB_freshBackward_1 : decode cB_freshBackward 1 = .ok (.getfield 38, 3) := by decide +kernel
theorem dB_freshBackward_4 : decode cB_freshBackward 4 = .ok (.ifCond .eq 23, 3) := by decide +kernel
theorem dB_freshBackward_7 : decode cB_freshBackward 7 = .ok (.aload_n 0, 1) := by decide +kernel
theorem dB_freshBackward_8 : decode cB_freshBackward 8 = .ok (.getfield 24, 3) := by decide +kernel
theorem dB_freshBackward_11 : decode cB_freshBackward 11 = .ok (.aload_n 0, 1) := by decide +kernel
theorem dB_freshBackward_12 : decode cB_freshBackward 12 = .ok (.invokevirtual 146, 3) := by decide +kernel
theorem dB_freshBackward_15 : decode cB_freshBackward 15 = .ok (.aload_n 0, 1) := by decide +kernel
theorem dB_freshBackward_16 : decode cB_freshBackward 16 = .ok (.getfield 7, 3) := by decide +kernel
theorem dB_freshBackward_19 : decode cB_freshBackward 19 = .ok (.invokevirtual 139, 3) := by decide +kernel
theorem dB_freshBackward_22 : decode cB_freshBackward 22 = .ok (.aload_n 0, 1) := by decide +kernel
theorem dB_freshBackward_23 : decode cB_freshBackward 23 = .ok (.iconst 0, 1) := by decide +kernel
theorem dB_freshBackward_24 : decode cB_freshBackward 24 = .ok (.putfield 38, 3) := by decide +kernel
theorem dB_freshBackward_27 : decode cB_freshBackward 27 = .ok (.aload_n 0, 1) := by decide +kernel
theorem dB_freshBackward_28 : decode cB_freshBackward 28 = .ok (.getfield 24, 3) := by decide +kernel
theorem dB_freshBackward_31 : decode cB_freshBackward 31 = .ok (.areturn, 1) := by decide +kernel
theorem dB_ends_0 : decode cB_ends 0 = .ok (.lconst 0, 1) := by decide +kernel
theorem dB_ends_1 : decode cB_ends 1 = .ok (.lstore_n 1, 1) := by decide +kernel
theorem dB_ends_2 : decode cB_ends 2 = .ok (.iconst 0, 1) := by decide +kernel
theorem dB_ends_3 : decode cB_ends 3 = .ok (.istore_n 3, 1) := by decide +kernel
theorem dB_ends_4 : decode cB_ends 4 = .ok (.iload_n 3, 1) := by decide +kernel
theorem dB_ends_5 : decode cB_ends 5 = .ok (.bipush 40, 2) := by decide +kernel
theorem dB_ends_7 : decode cB_ends 7 = .ok (.if_icmp .ge 36, 3) := by decide +kernel
theorem dB_ends_10 : decode cB_ends 10 = .ok (.aload_n 0, 1) := by decide +kernel
theorem dB_ends_11 : decode cB_ends 11 = .ok (.getfield 7, 3) := by decide +kernel
theorem dB_ends_14 : decode cB_ends 14 = .ok (.iload_n 3, 1) := by decide +kernel
theorem dB_ends_15 : decode cB_ends 15 = .ok (.invokestatic 45, 3) := by decide +kernel
theorem dB_ends_18 : decode cB_ends 18 = .ok (.ifCond .eq 19, 3) := by decide +kernel
theorem dB_ends_21 : decode cB_ends 21 = .ok (.aload_n 0, 1) := by decide +kernel
theorem dB_ends_22 : decode cB_ends 22 = .ok (.getfield 13, 3) := by decide +kernel
theorem dB_ends_25 : decode cB_ends 25 = .ok (.iload_n 3, 1) := by decide +kernel
theorem dB_ends_26 : decode cB_ends 26 = .ok (.iaload, 1) := by decide +kernel
theorem dB_ends_27 : decode cB_ends 27 = .ok (.ifCond .ne 10, 3) := by decide +kernel
theorem dB_ends_30 : decode cB_ends 30 = .ok (.lload_n 1, 1) := by decide +kernel
theorem dB_ends_31 : decode cB_ends 31 = .ok (.iload_n 3, 1) := by decide +kernel
theorem dB_ends_32 : decode cB_ends 32 = .ok (.invokestatic 49, 3) := by decide +kernel
theorem dB_ends_35 : decode cB_ends 35 = .ok (.lor, 1) := by decide +kernel
theorem dB_ends_36 : decode cB_ends 36 = .ok (.lstore_n 1, 1) := by decide +kernel
theorem dB_ends_37 : decode cB_ends 37 = .ok (.iinc 3 1, 3) := by decide +kernel
theorem dB_ends_40 : decode cB_ends 40 = .ok (.goto (-36), 3) := by decide +kernel
theorem dB_ends_43 : decode cB_ends 43 = .ok (.lload_n 1, 1) := by decide +kernel
theorem dB_ends_44 : decode cB_ends 44 = .ok (.lreturn, 1) := by decide +kernel
theorem dB_freshRounds_0 : decode cB_freshRounds 0 = .ok (.aload_n 0, 1) := by decide +kernel
theorem dB_freshRounds_1 : decode cB_freshRounds 1 = .ok (.invokevirtual 136, 3) := by decide +kernel
theorem dB_freshRounds_4 : decode cB_freshRounds 4 = .ok (.aload_n 0, 1) := by decide +kernel
theorem dB_freshRounds_5 : decode cB_freshRounds 5 = .ok (.getfield 30, 3) := by decide +kernel
theorem dB_freshRounds_8 : decode cB_freshRounds 8 = .ok (.areturn, 1) := by decide +kernel
theorem dR_number_0 : decode cR_number 0 = .ok (.iconst 0, 1) := by decide +kernel
theorem dR_number_1 : decode cR_number 1 = .ok (.istore_n 1, 1) := by decide +kernel
theorem dR_number_2 : decode cR_number 2 = .ok (.iconst 0, 1) := by decide +kernel
theorem dR_number_3 : decode cR_number 3 = .ok (.istore_n 2, 1) := by decide +kernel
theorem dR_number_4 : decode cR_number 4 = .ok (.iload_n 2, 1) := by decide +kernel
theorem dR_number_5 : decode cR_number 5 = .ok (.bipush 40, 2) := by decide +kernel
theorem dR_number_7 : decode cR_number 7 = .ok (.if_icmp .ge 23, 3) := by decide +kernel
theorem dR_number_10 : decode cR_number 10 = .ok (.aload_n 0, 1) := by decide +kernel
theorem dR_number_11 : decode cR_number 11 = .ok (.getfield 9, 3) := by decide +kernel
theorem dR_number_14 : decode cR_number 14 = .ok (.iload_n 2, 1) := by decide +kernel
theorem dR_number_15 : decode cR_number 15 = .ok (.laload, 1) := by decide +kernel
theorem dR_number_16 : decode cR_number 16 = .ok (.lconst 0, 1) := by decide +kernel
theorem dR_number_17 : decode cR_number 17 = .ok (.lcmp, 1) := by decide +kernel
theorem dR_number_18 : decode cR_number 18 = .ok (.ifCond .eq 6, 3) := by decide +kernel
theorem dR_number_21 : decode cR_number 21 = .ok (.iinc 1 1, 3) := by decide +kernel
theorem dR_number_24 : decode cR_number 24 = .ok (.iinc 2 1, 3) := by decide +kernel
theorem dR_number_27 : decode cR_number 27 = .ok (.goto (-23), 3) := by decide +kernel
theorem dR_number_30 : decode cR_number 30 = .ok (.iload_n 1, 1) := by decide +kernel
theorem dR_number_31 : decode cR_number 31 = .ok (.ireturn, 1) := by decide +kernel
theorem dR_deepest_0 : decode cR_deepest 0 = .ok (.iconst 0, 1) := by decide +kernel
theorem dR_deepest_1 : decode cR_deepest 1 = .ok (.istore_n 1, 1) := by decide +kernel
theorem dR_deepest_2 : decode cR_deepest 2 = .ok (.iconst 0, 1) := by decide +kernel
theorem dR_deepest_3 : decode cR_deepest 3 = .ok (.istore_n 2, 1) := by decide +kernel
theorem dR_deepest_4 : decode cR_deepest 4 = .ok (.iload_n 2, 1) := by decide +kernel
theorem dR_deepest_5 : decode cR_deepest 5 = .ok (.bipush 40, 2) := by decide +kernel
theorem dR_deepest_7 : decode cR_deepest 7 = .ok (.if_icmp .ge 19, 3) := by decide +kernel
theorem dR_deepest_10 : decode cR_deepest 10 = .ok (.iload_n 1, 1) := by decide +kernel
theorem dR_deepest_11 : decode cR_deepest 11 = .ok (.aload_n 0, 1) := by decide +kernel
theorem dR_deepest_12 : decode cR_deepest 12 = .ok (.iload_n 2, 1) := by decide +kernel
theorem dR_deepest_13 : decode cR_deepest 13 = .ok (.invokevirtual 41, 3) := by decide +kernel
theorem dR_deepest_16 : decode cR_deepest 16 = .ok (.invokestatic 45, 3) := by decide +kernel
theorem dR_deepest_19 : decode cR_deepest 19 = .ok (.istore_n 1, 1) := by decide +kernel
theorem dR_deepest_20 : decode cR_deepest 20 = .ok (.iinc 2 1, 3) := by decide +kernel
theorem dR_deepest_23 : decode cR_deepest 23 = .ok (.goto (-19), 3) := by decide +kernel
theorem dR_deepest_26 : decode cR_deepest 26 = .ok (.iload_n 1, 1) := by decide +kernel
theorem dR_deepest_27 : decode cR_deepest 27 = .ok (.ireturn, 1) := by decide +kernel
theorem dR_numberAround_0 : decode cR_numberAround 0 = .ok (.iconst 0, 1) := by decide +kernel
theorem dR_numberAround_1 : decode cR_numberAround 1 = .ok (.istore_n 2, 1) := by decide +kernel
theorem dR_numberAround_2 : decode cR_numberAround 2 = .ok (.iconst 0, 1) := by decide +kernel
theorem dR_numberAround_3 : decode cR_numberAround 3 = .ok (.istore_n 3, 1) := by decide +kernel
theorem dR_numberAround_4 : decode cR_numberAround 4 = .ok (.iload_n 3, 1) := by decide +kernel
theorem dR_numberAround_5 : decode cR_numberAround 5 = .ok (.bipush 40, 2) := by decide +kernel
theorem dR_numberAround_7 : decode cR_numberAround 7 = .ok (.if_icmp .ge 25, 3) := by decide +kernel
theorem dR_numberAround_10 : decode cR_numberAround 10 = .ok (.aload_n 0, 1) := by decide +kernel
theorem dR_numberAround_11 : decode cR_numberAround 11 = .ok (.getfield 9, 3) := by decide +kernel
theorem dR_numberAround_14 : decode cR_numberAround 14 = .ok (.iload_n 3, 1) := by decide +kernel
theorem dR_numberAround_15 : decode cR_numberAround 15 = .ok (.laload, 1) := by decide +kernel
theorem dR_numberAround_16 : decode cR_numberAround 16 = .ok (.iload_n 1, 1) := by decide +kernel
theorem dR_numberAround_17 : decode cR_numberAround 17 = .ok (.invokestatic 37, 3) := by decide +kernel
theorem dR_numberAround_20 : decode cR_numberAround 20 = .ok (.ifCond .eq 6, 3) := by decide +kernel
theorem dR_numberAround_23 : decode cR_numberAround 23 = .ok (.iinc 2 1, 3) := by decide +kernel
theorem dR_numberAround_26 : decode cR_numberAround 26 = .ok (.iinc 3 1, 3) := by decide +kernel
theorem dR_numberAround_29 : decode cR_numberAround 29 = .ok (.goto (-25), 3) := by decide +kernel
theorem dR_numberAround_32 : decode cR_numberAround 32 = .ok (.iload_n 2, 1) := by decide +kernel
theorem dR_numberAround_33 : decode cR_numberAround 33 = .ok (.ireturn, 1) := by decide +kernel
theorem dB_isPlain_0 : decode cB_isPlain 0 = .ok (.aload_n 0, 1) := by decide +kernel
theorem dB_isPlain_1 : decode cB_isPlain 1 = .ok (.invokevirtual 78, 3) := by decide +kernel
theorem dB_isPlain_4 : decode cB_isPlain 4 = .ok (.astore_n 1, 1) := by decide +kernel
theorem dB_isPlain_5 : decode cB_isPlain 5 = .ok (.aload_n 1, 1) := by decide +kernel
theorem dB_isPlain_6 : decode cB_isPlain 6 = .ok (.invokevirtual 82, 3) := by decide +kernel
theorem dB_isPlain_9 : decode cB_isPlain 9 = .ok (.lstore_n 2, 1) := by decide +kernel
theorem dB_isPlain_10 : decode cB_isPlain 10 = .ok (.iconst 0, 1) := by decide +kernel
theorem dB_isPlain_11 : decode cB_isPlain 11 = .ok (.istore 4, 2) := by decide +kernel
theorem dB_isPlain_13 : decode cB_isPlain 13 = .ok (.iload 4, 2) := by decide +kernel
theorem dB_isPlain_15 : decode cB_isPlain 15 = .ok (.bipush 40, 2) := by decide +kernel
theorem dB_isPlain_17 : decode cB_isPlain 17 = .ok (.if_icmp .ge 74, 3) := by decide +kernel
theorem dB_isPlain_20 : decode cB_isPlain 20 = .ok (.lload_n 2, 1) := by decide +kernel
theorem dB_isPlain_21 : decode cB_isPlain 21 = .ok (.lconst 0, 1) := by decide +kernel
theorem dB_isPlain_22 : decode cB_isPlain 22 = .ok (.lcmp, 1) := by decide +kernel
theorem dB_isPlain_23 : decode cB_isPlain 23 = .ok (.ifCond .eq 68, 3) := by decide +kernel
theorem dB_isPlain_26 : decode cB_isPlain 26 = .ok (.iconst 0, 1) := by decide +kernel
theorem dB_isPlain_27 : decode cB_isPlain 27 = .ok (.istore 5, 2) := by decide +kernel
theorem dB_isPlain_29 : decode cB_isPlain 29 = .ok (.iload 5, 2) := by decide +kernel
theorem dB_isPlain_31 : decode cB_isPlain 31 = .ok (.bipush 40, 2) := by decide +kernel
theorem dB_isPlain_33 : decode cB_isPlain 33 = .ok (.if_icmp .ge 52, 3) := by decide +kernel
