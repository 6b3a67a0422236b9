theorem dRM_init_0 : decode mRM_init.2.1 0 = .ok (.aload_n 0, 1) := by decide +kernel
theorem dRM_init_1 : decode mRM_init.2.1 1 = .ok (.invokespecial 1, 3) := by decide +kernel
theorem dRM_init_4 : decode mRM_init.2.1 4 = .ok (.aload_n 0, 1) := by decide +kernel
theorem dRM_init_5 : decode mRM_init.2.1 5 = .ok (.iconst 3, 1) := by decide +kernel
theorem dRM_init_6 : decode mRM_init.2.1 6 = .ok (.iconst 5, 1) := by decide +kernel
theorem dRM_init_7 : decode mRM_init.2.1 7 = .ok (.iload_n 1, 1) := by decide +kernel
theorem dRM_init_8 : decode mRM_init.2.1 8 = .ok (.invokestatic 7, 3) := by decide +kernel
theorem dRM_init_11 : decode mRM_init.2.1 11 = .ok (.invokestatic 13, 3) := by decide +kernel
theorem dRM_init_14 : decode mRM_init.2.1 14 = .ok (.putfield 16, 3) := by decide +kernel
theorem dRM_init_17 : decode mRM_init.2.1 17 = .ok (.aload_n 0, 1) := by decide +kernel
theorem dRM_init_18 : decode mRM_init.2.1 18 = .ok (.iconst 1, 1) := by decide +kernel
theorem dRM_init_19 : decode mRM_init.2.1 19 = .ok (.aload_n 0, 1) := by decide +kernel
theorem dRM_init_20 : decode mRM_init.2.1 20 = .ok (.getfield 16, 3) := by decide +kernel
theorem dRM_init_23 : decode mRM_init.2.1 23 = .ok (.iconst 5, 1) := by decide +kernel
theorem dRM_init_24 : decode mRM_init.2.1 24 = .ok (.if_icmp .ne 7, 3) := by decide +kernel
theorem dRM_init_27 : decode mRM_init.2.1 27 = .ok (.iconst 2, 1) := by decide +kernel
theorem dRM_init_28 : decode mRM_init.2.1 28 = .ok (.goto 4, 3) := by decide +kernel
theorem dRM_init_31 : decode mRM_init.2.1 31 = .ok (.iconst 3, 1) := by decide +kernel
theorem dRM_init_32 : decode mRM_init.2.1 32 = .ok (.iload_n 2, 1) := by decide +kernel
theorem dRM_init_33 : decode mRM_init.2.1 33 = .ok (.invokestatic 7, 3) := by decide +kernel
theorem dRM_init_36 : decode mRM_init.2.1 36 = .ok (.invokestatic 13, 3) := by decide +kernel
theorem dRM_init_39 : decode mRM_init.2.1 39 = .ok (.putfield 22, 3) := by decide +kernel
theorem dRM_init_42 : decode mRM_init.2.1 42 = .ok (.aload_n 0, 1) := by decide +kernel
theorem dRM_init_43 : decode mRM_init.2.1 43 = .ok (.new 25, 3) := by decide +kernel
theorem dRM_init_46 : decode mRM_init.2.1 46 = .ok (.dup, 1) := by decide +kernel
theorem dRM_init_47 : decode mRM_init.2.1 47 = .ok (.invokespecial 27, 3) := by decide +kernel
theorem dRM_init_50 : decode mRM_init.2.1 50 = .ok (.putfield 28, 3) := by decide +kernel
theorem dRM_init_53 : decode mRM_init.2.1 53 = .ok (.aload_n 0, 1) := by decide +kernel
theorem dRM_init_54 : decode mRM_init.2.1 54 = .ok (.new 32, 3) := by decide +kernel
theorem dRM_init_57 : decode mRM_init.2.1 57 = .ok (.dup, 1) := by decide +kernel
theorem dRM_init_58 : decode mRM_init.2.1 58 = .ok (.aload_n 0, 1) := by decide +kernel
theorem dRM_init_59 : decode mRM_init.2.1 59 = .ok (.getfield 16, 3) := by decide +kernel
theorem dRM_init_62 : decode mRM_init.2.1 62 = .ok (.aload_n 0, 1) := by decide +kernel
theorem dRM_init_63 : decode mRM_init.2.1 63 = .ok (.getfield 22, 3) := by decide +kernel
theorem dRM_init_66 : decode mRM_init.2.1 66 = .ok (.invokespecial 34, 3) := by decide +kernel
theorem dRM_init_69 : decode mRM_init.2.1 69 = .ok (.putfield 37, 3) := by decide +kernel
theorem dRM_init_72 : decode mRM_init.2.1 72 = .ok (.aload_n 0, 1) := by decide +kernel
theorem dRM_init_73 : decode mRM_init.2.1 73 = .ok (.new 41, 3) := by decide +kernel
theorem dRM_init_76 : decode mRM_init.2.1 76 = .ok (.dup, 1) := by decide +kernel
theorem dRM_init_77 : decode mRM_init.2.1 77 = .ok (.aload_n 0, 1) := by decide +kernel
theorem dRM_init_78 : decode mRM_init.2.1 78 = .ok (.getfield 16, 3) := by decide +kernel
theorem dRM_init_81 : decode mRM_init.2.1 81 = .ok (.aload_n 0, 1) := by decide +kernel
theorem dRM_init_82 : decode mRM_init.2.1 82 = .ok (.getfield 22, 3) := by decide +kernel
theorem dRM_init_85 : decode mRM_init.2.1 85 = .ok (.invokespecial 43, 3) := by decide +kernel
theorem dRM_init_88 : decode mRM_init.2.1 88 = .ok (.putfield 44, 3) := by decide +kernel
theorem dRM_init_91 : decode mRM_init.2.1 91 = .ok (.aload_n 0, 1) := by decide +kernel
theorem dRM_init_92 : decode mRM_init.2.1 92 = .ok (.new 41, 3) := by decide +kernel
theorem dRM_init_95 : decode mRM_init.2.1 95 = .ok (.dup, 1) := by decide +kernel
theorem dRM_init_96 : decode mRM_init.2.1 96 = .ok (.aload_n 0, 1) := by decide +kernel
theorem dRM_init_97 : decode mRM_init.2.1 97 = .ok (.getfield 16, 3) := by decide +kernel
theorem dRM_init_100 : decode mRM_init.2.1 100 = .ok (.aload_n 0, 1) := by decide +kernel
theorem dRM_init_101 : decode mRM_init.2.1 101 = .ok (.getfield 22, 3) := by decide +kernel
theorem dRM_init_104 : decode mRM_init.2.1 104 = .ok (.invokespecial 43, 3) := by decide +kernel
theorem dRM_init_107 : decode mRM_init.2.1 107 = .ok (.putfield 48, 3) := by decide +kernel
theorem dRM_init_110 : decode mRM_init.2.1 110 = .ok (.aload_n 0, 1) := by decide +kernel
theorem dRM_init_111 : decode mRM_init.2.1 111 = .ok (.new 51, 3) := by decide +kernel
theorem dRM_init_114 : decode mRM_init.2.1 114 = .ok (.dup, 1) := by decide +kernel
theorem dRM_init_115 : decode mRM_init.2.1 115 = .ok (.aload_n 0, 1) := by decide +kernel
theorem dRM_init_116 : decode mRM_init.2.1 116 = .ok (.getfield 16, 3) := by decide +kernel
theorem dRM_init_119 : decode mRM_init.2.1 119 = .ok (.aload_n 0, 1) := by decide +kernel
theorem dRM_init_120 : decode mRM_init.2.1 120 = .ok (.getfield 22, 3) := by decide +kernel
theorem dRM_init_123 : decode mRM_init.2.1 123 = .ok (.invokespecial 53, 3) := by decide +kernel
theorem dRM_init_126 : decode mRM_init.2.1 126 = .ok (.putfield 54, 3) := by decide +kernel
theorem dRM_init_129 : decode mRM_init.2.1 129 = .ok (.aload_n 0, 1) := by decide +kernel
theorem dRM_init_130 : decode mRM_init.2.1 130 = .ok (.new 58, 3) := by decide +kernel
theorem dRM_init_133 : decode mRM_init.2.1 133 = .ok (.dup, 1) := by decide +kernel
theorem dRM_init_134 : decode mRM_init.2.1 134 = .ok (.invokespecial 60, 3) := by decide +kernel
theorem dRM_init_137 : decode mRM_init.2.1 137 = .ok (.putfield 61, 3) := by decide +kernel
theorem dRM_init_140 : decode mRM_init.2.1 140 = .ok (.return_, 1) := by decide +kernel
theorem dRM_clueAt_0 : decode mRM_clueAt.2.1 0 = .ok (.aload_n 0, 1) := by decide +kernel
theorem dRM_clueAt_1 : decode mRM_clueAt.2.1 1 = .ok (.getfield 28, 3) := by decide +kernel
theorem dRM_clueAt_4 : decode mRM_clueAt.2.1 4 = .ok (.iload_n 1, 1) := by decide +kernel
theorem dRM_clueAt_5 : decode mRM_clueAt.2.1 5 = .ok (.invokevirtual 86, 3) := by decide +kernel
theorem dRM_clueAt_8 : decode mRM_clueAt.2.1 8 = .ok (.ifCond .ne 5, 3) := by decide +kernel
theorem dRM_clueAt_11 : decode mRM_clueAt.2.1 11 = .ok (.iconst (-1), 1) := by decide +kernel
theorem dRM_clueAt_12 : decode mRM_clueAt.2.1 12 = .ok (.ireturn, 1) := by decide +kernel
theorem dRM_clueAt_13 : decode mRM_clueAt.2.1 13 = .ok (.aload_n 0, 1) := by decide +kernel
theorem dRM_clueAt_14 : decode mRM_clueAt.2.1 14 = .ok (.getfield 28, 3) := by decide +kernel
theorem dRM_clueAt_17 : decode mRM_clueAt.2.1 17 = .ok (.getfield 99, 3) := by decide +kernel
theorem dRM_clueAt_20 : decode mRM_clueAt.2.1 20 = .ok (.iload_n 1, 1) := by decide +kernel
theorem dRM_clueAt_21 : decode mRM_clueAt.2.1 21 = .ok (.iaload, 1) := by decide +kernel
theorem dRM_clueAt_22 : decode mRM_clueAt.2.1 22 = .ok (.istore_n 3, 1) := by decide +kernel
theorem dRM_clueAt_23 : decode mRM_clueAt.2.1 23 = .ok (.iload_n 2, 1) := by decide +kernel
theorem dRM_clueAt_24 : decode mRM_clueAt.2.1 24 = .ok (.tableswitch 70 0 5 #[40, 45, 50, 55, 60, 65], 40) := by decide +kernel
theorem dRM_clueAt_64 : decode mRM_clueAt.2.1 64 = .ok (.iload_n 3, 1) := by decide +kernel
theorem dRM_clueAt_65 : decode mRM_clueAt.2.1 65 = .ok (.invokestatic 103, 3) := by decide +kernel
theorem dRM_clueAt_68 : decode mRM_clueAt.2.1 68 = .ok (.ireturn, 1) := by decide +kernel
theorem dRM_clueAt_69 : decode mRM_clueAt.2.1 69 = .ok (.iload_n 3, 1) := by decide +kernel
theorem dRM_clueAt_70 : decode mRM_clueAt.2.1 70 = .ok (.invokestatic 106, 3) := by decide +kernel
theorem dRM_clueAt_73 : decode mRM_clueAt.2.1 73 = .ok (.ireturn, 1) := by decide +kernel
theorem dRM_clueAt_74 : decode mRM_clueAt.2.1 74 = .ok (.iload_n 3, 1) := by decide +kernel
theorem dRM_clueAt_75 : decode mRM_clueAt.2.1 75 = .ok (.invokestatic 109, 3) := by decide +kernel
theorem dRM_clueAt_78 : decode mRM_clueAt.2.1 78 = .ok (.ireturn, 1) := by decide +kernel
theorem dRM_clueAt_79 : decode mRM_clueAt.2.1 79 = .ok (.iload_n 3, 1) := by decide +kernel
theorem dRM_clueAt_80 : decode mRM_clueAt.2.1 80 = .ok (.invokestatic 112, 3) := by decide +kernel
theorem dRM_clueAt_83 : decode mRM_clueAt.2.1 83 = .ok (.ireturn, 1) := by decide +kernel
theorem dRM_clueAt_84 : decode mRM_clueAt.2.1 84 = .ok (.iload_n 3, 1) := by decide +kernel
theorem dRM_clueAt_85 : decode mRM_clueAt.2.1 85 = .ok (.invokestatic 115, 3) := by decide +kernel
theorem dRM_clueAt_88 : decode mRM_clueAt.2.1 88 = .ok (.ireturn, 1) := by decide +kernel
theorem dRM_clueAt_89 : decode mRM_clueAt.2.1 89 = .ok (.iload_n 3, 1) := by decide +kernel
theorem dRM_clueAt_90 : decode mRM_clueAt.2.1 90 = .ok (.invokestatic 118, 3) := by decide +kernel
theorem dRM_clueAt_93 : decode mRM_clueAt.2.1 93 = .ok (.ireturn, 1) := by decide +kernel
theorem dRM_clueAt_94 : decode mRM_clueAt.2.1 94 = .ok (.iconst (-1), 1) := by decide +kernel
theorem dRM_clueAt_95 : decode mRM_clueAt.2.1 95 = .ok (.ireturn, 1) := by decide +kernel
theorem dRM_answer_0 : decode mRM_answer.2.1 0 = .ok (.iload_n 1, 1) := by decide +kernel
theorem dRM_answer_1 : decode mRM_answer.2.1 1 = .ok (.ifCond .eq 16, 3) := by decide +kernel
theorem dRM_answer_4 : decode mRM_answer.2.1 4 = .ok (.iload_n 1, 1) := by decide +kernel
theorem dRM_answer_5 : decode mRM_answer.2.1 5 = .ok (.iconst 1, 1) := by decide +kernel
theorem dRM_answer_6 : decode mRM_answer.2.1 6 = .ok (.if_icmp .eq 11, 3) := by decide +kernel
theorem dRM_answer_9 : decode mRM_answer.2.1 9 = .ok (.aload_n 0, 1) := by decide +kernel
theorem dRM_answer_10 : decode mRM_answer.2.1 10 = .ok (.iload_n 1, 1) := by decide +kernel
theorem dRM_answer_11 : decode mRM_answer.2.1 11 = .ok (.invokevirtual 127, 3) := by decide +kernel
theorem dRM_answer_14 : decode mRM_answer.2.1 14 = .ok (.ifCond .eq 7, 3) := by decide +kernel
theorem dRM_answer_17 : decode mRM_answer.2.1 17 = .ok (.iconst 1, 1) := by decide +kernel
theorem dRM_answer_18 : decode mRM_answer.2.1 18 = .ok (.goto 4, 3) := by decide +kernel
theorem dRM_answer_21 : decode mRM_answer.2.1 21 = .ok (.iconst 0, 1) := by decide +kernel
theorem dRM_answer_22 : decode mRM_answer.2.1 22 = .ok (.istore_n 2, 1) := by decide +kernel
theorem dRM_answer_23 : decode mRM_answer.2.1 23 = .ok (.iload_n 2, 1) := by decide +kernel
theorem dRM_answer_24 : decode mRM_answer.2.1 24 = .ok (.ifCond .eq 18, 3) := by decide +kernel
theorem dRM_answer_27 : decode mRM_answer.2.1 27 = .ok (.aload_n 0, 1) := by decide +kernel
theorem dRM_answer_28 : decode mRM_answer.2.1 28 = .ok (.getfield 37, 3) := by decide +kernel
theorem dRM_answer_31 : decode mRM_answer.2.1 31 = .ok (.aload_n 0, 1) := by decide +kernel
theorem dRM_answer_32 : decode mRM_answer.2.1 32 = .ok (.getfield 28, 3) := by decide +kernel
theorem dRM_answer_35 : decode mRM_answer.2.1 35 = .ok (.iload_n 1, 1) := by decide +kernel
theorem dRM_answer_36 : decode mRM_answer.2.1 36 = .ok (.invokevirtual 130, 3) := by decide +kernel
theorem dRM_answer_39 : decode mRM_answer.2.1 39 = .ok (.goto 4, 3) := by decide +kernel
theorem dRM_answer_42 : decode mRM_answer.2.1 42 = .ok (.iconst (-1), 1) := by decide +kernel
theorem dRM_answer_43 : decode mRM_answer.2.1 43 = .ok (.ireturn, 1) := by decide +kernel
theorem dRM_isThing_0 : decode mRM_isThing.2.1 0 = .ok (.iload_n 1, 1) := by decide +kernel
theorem dRM_isThing_1 : decode mRM_isThing.2.1 1 = .ok (.bipush 10, 2) := by decide +kernel
theorem dRM_isThing_3 : decode mRM_isThing.2.1 3 = .ok (.if_icmp .lt 29, 3) := by decide +kernel
theorem dRM_isThing_6 : decode mRM_isThing.2.1 6 = .ok (.iload_n 1, 1) := by decide +kernel
theorem dRM_isThing_7 : decode mRM_isThing.2.1 7 = .ok (.bipush 10, 2) := by decide +kernel
theorem dRM_isThing_9 : decode mRM_isThing.2.1 9 = .ok (.idiv, 1) := by decide +kernel
theorem dRM_isThing_10 : decode mRM_isThing.2.1 10 = .ok (.aload_n 0, 1) := by decide +kernel
theorem dRM_isThing_11 : decode mRM_isThing.2.1 11 = .ok (.getfield 22, 3) := by decide +kernel
theorem dRM_isThing_14 : decode mRM_isThing.2.1 14 = .ok (.if_icmp .gt 18, 3) := by decide +kernel
theorem dRM_isThing_17 : decode mRM_isThing.2.1 17 = .ok (.iload_n 1, 1) := by decide +kernel
theorem dRM_isThing_18 : decode mRM_isThing.2.1 18 = .ok (.bipush 10, 2) := by decide +kernel
theorem dRM_isThing_20 : decode mRM_isThing.2.1 20 = .ok (.irem, 1) := by decide +kernel
theorem dRM_isThing_21 : decode mRM_isThing.2.1 21 = .ok (.aload_n 0, 1) := by decide +kernel
theorem dRM_isThing_22 : decode mRM_isThing.2.1 22 = .ok (.getfield 16, 3) := by decide +kernel
theorem dRM_isThing_25 : decode mRM_isThing.2.1 25 = .ok (.if_icmp .ge 7, 3) := by decide +kernel
theorem dRM_isThing_28 : decode mRM_isThing.2.1 28 = .ok (.iconst 1, 1) := by decide +kernel
theorem dRM_isThing_29 : decode mRM_isThing.2.1 29 = .ok (.goto 4, 3) := by decide +kernel
theorem dRM_isThing_32 : decode mRM_isThing.2.1 32 = .ok (.iconst 0, 1) := by decide +kernel
theorem dRM_isThing_33 : decode mRM_isThing.2.1 33 = .ok (.ireturn, 1) := by decide +kernel
theorem dRM_prove_0 : decode mRM_prove.2.1 0 = .ok (.aload_n 0, 1) := by decide +kernel
theorem dRM_prove_1 : decode mRM_prove.2.1 1 = .ok (.getfield 44, 3) := by decide +kernel
theorem dRM_prove_4 : decode mRM_prove.2.1 4 = .ok (.aload_n 0, 1) := by decide +kernel
theorem dRM_prove_5 : decode mRM_prove.2.1 5 = .ok (.getfield 28, 3) := by decide +kernel
theorem dRM_prove_8 : decode mRM_prove.2.1 8 = .ok (.invokevirtual 137, 3) := by decide +kernel
theorem dRM_prove_11 : decode mRM_prove.2.1 11 = .ok (.aload_n 0, 1) := by decide +kernel
theorem dRM_prove_12 : decode mRM_prove.2.1 12 = .ok (.getfield 44, 3) := by decide +kernel
theorem dRM_prove_15 : decode mRM_prove.2.1 15 = .ok (.getfield 141, 3) := by decide +kernel
theorem dRM_prove_18 : decode mRM_prove.2.1 18 = .ok (.ireturn, 1) := by decide +kernel
theorem dRM_step_0 : decode mRM_step.2.1 0 = .ok (.iload_n 1, 1) := by decide +kernel
theorem dRM_step_1 : decode mRM_step.2.1 1 = .ok (.ifCond .lt 14, 3) := by decide +kernel
theorem dRM_step_4 : decode mRM_step.2.1 4 = .ok (.iload_n 1, 1) := by decide +kernel
theorem dRM_step_5 : decode mRM_step.2.1 5 = .ok (.aload_n 0, 1) := by decide +kernel
theorem dRM_step_6 : decode mRM_step.2.1 6 = .ok (.getfield 44, 3) := by decide +kernel
theorem dRM_step_9 : decode mRM_step.2.1 9 = .ok (.getfield 141, 3) := by decide +kernel
theorem dRM_step_12 : decode mRM_step.2.1 12 = .ok (.if_icmp .lt 5, 3) := by decide +kernel
theorem dRM_step_15 : decode mRM_step.2.1 15 = .ok (.iconst (-1), 1) := by decide +kernel
theorem dRM_step_16 : decode mRM_step.2.1 16 = .ok (.ireturn, 1) := by decide +kernel
theorem dRM_step_17 : decode mRM_step.2.1 17 = .ok (.iload_n 2, 1) := by decide +kernel
theorem dRM_step_18 : decode mRM_step.2.1 18 = .ok (.tableswitch 70 0 3 #[30, 40, 50, 60], 30) := by decide +kernel
theorem dRM_step_48 : decode mRM_step.2.1 48 = .ok (.aload_n 0, 1) := by decide +kernel
theorem dRM_step_49 : decode mRM_step.2.1 49 = .ok (.getfield 44, 3) := by decide +kernel
theorem dRM_step_52 : decode mRM_step.2.1 52 = .ok (.getfield 144, 3) := by decide +kernel
theorem dRM_step_55 : decode mRM_step.2.1 55 = .ok (.iload_n 1, 1) := by decide +kernel
theorem dRM_step_56 : decode mRM_step.2.1 56 = .ok (.iaload, 1) := by decide +kernel
theorem dRM_step_57 : decode mRM_step.2.1 57 = .ok (.ireturn, 1) := by decide +kernel
theorem dRM_step_58 : decode mRM_step.2.1 58 = .ok (.aload_n 0, 1) := by decide +kernel
theorem dRM_step_59 : decode mRM_step.2.1 59 = .ok (.getfield 44, 3) := by decide +kernel
theorem dRM_step_62 : decode mRM_step.2.1 62 = .ok (.getfield 147, 3) := by decide +kernel
theorem dRM_step_65 : decode mRM_step.2.1 65 = .ok (.iload_n 1, 1) := by decide +kernel
theorem dRM_step_66 : decode mRM_step.2.1 66 = .ok (.iaload, 1) := by decide +kernel
theorem dRM_step_67 : decode mRM_step.2.1 67 = .ok (.ireturn, 1) := by decide +kernel
theorem dRM_step_68 : decode mRM_step.2.1 68 = .ok (.aload_n 0, 1) := by decide +kernel
theorem dRM_step_69 : decode mRM_step.2.1 69 = .ok (.getfield 44, 3) := by decide +kernel
theorem dRM_step_72 : decode mRM_step.2.1 72 = .ok (.getfield 150, 3) := by decide +kernel
theorem dRM_step_75 : decode mRM_step.2.1 75 = .ok (.iload_n 1, 1) := by decide +kernel
theorem dRM_step_76 : decode mRM_step.2.1 76 = .ok (.iaload, 1) := by decide +kernel
theorem dRM_step_77 : decode mRM_step.2.1 77 = .ok (.ireturn, 1) := by decide +kernel
theorem dRM_step_78 : decode mRM_step.2.1 78 = .ok (.aload_n 0, 1) := by decide +kernel
theorem dRM_step_79 : decode mRM_step.2.1 79 = .ok (.getfield 44, 3) := by decide +kernel
theorem dRM_step_82 : decode mRM_step.2.1 82 = .ok (.getfield 153, 3) := by decide +kernel
theorem dRM_step_85 : decode mRM_step.2.1 85 = .ok (.iload_n 1, 1) := by decide +kernel
theorem dRM_step_86 : decode mRM_step.2.1 86 = .ok (.iaload, 1) := by decide +kernel
theorem dRM_step_87 : decode mRM_step.2.1 87 = .ok (.ireturn, 1) := by decide +kernel
theorem dRM_step_88 : decode mRM_step.2.1 88 = .ok (.iconst (-1), 1) := by decide +kernel
theorem dRM_step_89 : decode mRM_step.2.1 89 = .ok (.ireturn, 1) := by decide +kernel
theorem dRM_may_0 : decode mRM_may.2.1 0 = .ok (.aload_n 0, 1) := by decide +kernel
theorem dRM_may_1 : decode mRM_may.2.1 1 = .ok (.iload_n 1, 1) := by decide +kernel
theorem dRM_may_2 : decode mRM_may.2.1 2 = .ok (.invokevirtual 127, 3) := by decide +kernel
theorem dRM_may_5 : decode mRM_may.2.1 5 = .ok (.ifCond .eq 15, 3) := by decide +kernel
theorem dRM_may_8 : decode mRM_may.2.1 8 = .ok (.aload_n 0, 1) := by decide +kernel
theorem dRM_may_9 : decode mRM_may.2.1 9 = .ok (.getfield 44, 3) := by decide +kernel
theorem dRM_may_12 : decode mRM_may.2.1 12 = .ok (.getfield 156, 3) := by decide +kernel
theorem dRM_may_15 : decode mRM_may.2.1 15 = .ok (.iload_n 1, 1) := by decide +kernel
theorem dRM_may_16 : decode mRM_may.2.1 16 = .ok (.iaload, 1) := by decide +kernel
theorem dRM_may_17 : decode mRM_may.2.1 17 = .ok (.goto 4, 3) := by decide +kernel
theorem dRM_may_20 : decode mRM_may.2.1 20 = .ok (.iconst 0, 1) := by decide +kernel
theorem dRM_may_21 : decode mRM_may.2.1 21 = .ok (.ireturn, 1) := by decide +kernel
theorem dRM_rating_0 : decode mRM_rating.2.1 0 = .ok (.aload_n 0, 1) := by decide +kernel
theorem dRM_rating_1 : decode mRM_rating.2.1 1 = .ok (.getfield 48, 3) := by decide +kernel
theorem dRM_rating_4 : decode mRM_rating.2.1 4 = .ok (.aload_n 0, 1) := by decide +kernel
theorem dRM_rating_5 : decode mRM_rating.2.1 5 = .ok (.getfield 28, 3) := by decide +kernel
theorem dRM_rating_8 : decode mRM_rating.2.1 8 = .ok (.invokevirtual 137, 3) := by decide +kernel
theorem dRM_rating_11 : decode mRM_rating.2.1 11 = .ok (.aload_n 0, 1) := by decide +kernel
theorem dRM_rating_12 : decode mRM_rating.2.1 12 = .ok (.getfield 48, 3) := by decide +kernel
theorem dRM_rating_15 : decode mRM_rating.2.1 15 = .ok (.getfield 159, 3) := by decide +kernel
theorem dRM_rating_18 : decode mRM_rating.2.1 18 = .ok (.ireturn, 1) := by decide +kernel
theorem dRM_name_0 : decode mRM_name.2.1 0 = .ok (.aload_n 0, 1) := by decide +kernel
theorem dRM_name_1 : decode mRM_name.2.1 1 = .ok (.iload_n 1, 1) := by decide +kernel
theorem dRM_name_2 : decode mRM_name.2.1 2 = .ok (.invokevirtual 127, 3) := by decide +kernel
theorem dRM_name_5 : decode mRM_name.2.1 5 = .ok (.ifCond .eq 19, 3) := by decide +kernel
theorem dRM_name_8 : decode mRM_name.2.1 8 = .ok (.aload_n 0, 1) := by decide +kernel
theorem dRM_name_9 : decode mRM_name.2.1 9 = .ok (.getfield 61, 3) := by decide +kernel
theorem dRM_name_12 : decode mRM_name.2.1 12 = .ok (.iload_n 1, 1) := by decide +kernel
theorem dRM_name_13 : decode mRM_name.2.1 13 = .ok (.lload_n 2, 1) := by decide +kernel
theorem dRM_name_14 : decode mRM_name.2.1 14 = .ok (.invokevirtual 175, 3) := by decide +kernel
theorem dRM_name_17 : decode mRM_name.2.1 17 = .ok (.ifCond .eq 7, 3) := by decide +kernel
theorem dRM_name_20 : decode mRM_name.2.1 20 = .ok (.iconst 1, 1) := by decide +kernel
theorem dRM_name_21 : decode mRM_name.2.1 21 = .ok (.goto 4, 3) := by decide +kernel
theorem dRM_name_24 : decode mRM_name.2.1 24 = .ok (.iconst 0, 1) := by decide +kernel
theorem dRM_name_25 : decode mRM_name.2.1 25 = .ok (.ireturn, 1) := by decide +kernel
theorem dRM_print_0 : decode mRM_print.2.1 0 = .ok (.aload_n 0, 1) := by decide +kernel
theorem dRM_print_1 : decode mRM_print.2.1 1 = .ok (.getfield 28, 3) := by decide +kernel
theorem dRM_print_4 : decode mRM_print.2.1 4 = .ok (.iload_n 1, 1) := by decide +kernel
theorem dRM_print_5 : decode mRM_print.2.1 5 = .ok (.invokevirtual 86, 3) := by decide +kernel
theorem dRM_print_8 : decode mRM_print.2.1 8 = .ok (.ifCond .eq 22, 3) := by decide +kernel
theorem dRM_print_11 : decode mRM_print.2.1 11 = .ok (.aload_n 0, 1) := by decide +kernel
theorem dRM_print_12 : decode mRM_print.2.1 12 = .ok (.getfield 61, 3) := by decide +kernel
theorem dRM_print_15 : decode mRM_print.2.1 15 = .ok (.aload_n 0, 1) := by decide +kernel
theorem dRM_print_16 : decode mRM_print.2.1 16 = .ok (.getfield 28, 3) := by decide +kernel
theorem dRM_print_19 : decode mRM_print.2.1 19 = .ok (.getfield 99, 3) := by decide +kernel
theorem dRM_print_22 : decode mRM_print.2.1 22 = .ok (.iload_n 1, 1) := by decide +kernel
theorem dRM_print_23 : decode mRM_print.2.1 23 = .ok (.iaload, 1) := by decide +kernel
theorem dRM_print_24 : decode mRM_print.2.1 24 = .ok (.invokevirtual 179, 3) := by decide +kernel
theorem dRM_print_27 : decode mRM_print.2.1 27 = .ok (.goto 4, 3) := by decide +kernel
theorem dRM_print_30 : decode mRM_print.2.1 30 = .ok (.iconst 0, 1) := by decide +kernel
theorem dRM_print_31 : decode mRM_print.2.1 31 = .ok (.ireturn, 1) := by decide +kernel
theorem dRM_shown_0 : decode mRM_shown.2.1 0 = .ok (.iload_n 1, 1) := by decide +kernel
theorem dRM_shown_1 : decode mRM_shown.2.1 1 = .ok (.ifCond .lt 26, 3) := by decide +kernel
theorem dRM_shown_4 : decode mRM_shown.2.1 4 = .ok (.iload_n 1, 1) := by decide +kernel
theorem dRM_shown_5 : decode mRM_shown.2.1 5 = .ok (.aload_n 0, 1) := by decide +kernel
theorem dRM_shown_6 : decode mRM_shown.2.1 6 = .ok (.getfield 61, 3) := by decide +kernel
theorem dRM_shown_9 : decode mRM_shown.2.1 9 = .ok (.getfield 182, 3) := by decide +kernel
theorem dRM_shown_12 : decode mRM_shown.2.1 12 = .ok (.if_icmp .ge 15, 3) := by decide +kernel
theorem dRM_shown_15 : decode mRM_shown.2.1 15 = .ok (.aload_n 0, 1) := by decide +kernel
theorem dRM_shown_16 : decode mRM_shown.2.1 16 = .ok (.getfield 61, 3) := by decide +kernel
theorem dRM_shown_19 : decode mRM_shown.2.1 19 = .ok (.getfield 185, 3) := by decide +kernel
theorem dRM_shown_22 : decode mRM_shown.2.1 22 = .ok (.iload_n 1, 1) := by decide +kernel
theorem dRM_shown_23 : decode mRM_shown.2.1 23 = .ok (.iaload, 1) := by decide +kernel
theorem dRM_shown_24 : decode mRM_shown.2.1 24 = .ok (.goto 4, 3) := by decide +kernel
theorem dRM_shown_27 : decode mRM_shown.2.1 27 = .ok (.iconst (-1), 1) := by decide +kernel
theorem dRM_shown_28 : decode mRM_shown.2.1 28 = .ok (.ireturn, 1) := by decide +kernel
theorem dRM_type_0 : decode mRM_type.2.1 0 = .ok (.aload_n 0, 1) := by decide +kernel
theorem dRM_type_1 : decode mRM_type.2.1 1 = .ok (.getfield 61, 3) := by decide +kernel
theorem dRM_type_4 : decode mRM_type.2.1 4 = .ok (.lload_n 1, 1) := by decide +kernel
theorem dRM_type_5 : decode mRM_type.2.1 5 = .ok (.invokevirtual 188, 3) := by decide +kernel
theorem dRM_type_8 : decode mRM_type.2.1 8 = .ok (.ireturn, 1) := by decide +kernel
theorem dRM_fault_0 : decode mRM_fault.2.1 0 = .ok (.aload_n 0, 1) := by decide +kernel
theorem dRM_fault_1 : decode mRM_fault.2.1 1 = .ok (.getfield 61, 3) := by decide +kernel
theorem dRM_fault_4 : decode mRM_fault.2.1 4 = .ok (.getfield 201, 3) := by decide +kernel
theorem dRM_fault_7 : decode mRM_fault.2.1 7 = .ok (.ireturn, 1) := by decide +kernel
theorem dRM_about_0 : decode mRM_about.2.1 0 = .ok (.iload_n 1, 1) := by decide +kernel
theorem dRM_about_1 : decode mRM_about.2.1 1 = .ok (.tableswitch 45 0 2 #[27, 32, 37], 27) := by decide +kernel
theorem dRM_about_28 : decode mRM_about.2.1 28 = .ok (.aload_n 0, 1) := by decide +kernel
theorem dRM_about_29 : decode mRM_about.2.1 29 = .ok (.getfield 16, 3) := by decide +kernel
theorem dRM_about_32 : decode mRM_about.2.1 32 = .ok (.ireturn, 1) := by decide +kernel
theorem dRM_about_33 : decode mRM_about.2.1 33 = .ok (.aload_n 0, 1) := by decide +kernel
theorem dRM_about_34 : decode mRM_about.2.1 34 = .ok (.getfield 22, 3) := by decide +kernel
theorem dRM_about_37 : decode mRM_about.2.1 37 = .ok (.ireturn, 1) := by decide +kernel
theorem dRM_about_38 : decode mRM_about.2.1 38 = .ok (.aload_n 0, 1) := by decide +kernel
theorem dRM_about_39 : decode mRM_about.2.1 39 = .ok (.getfield 28, 3) := by decide +kernel
theorem dRM_about_42 : decode mRM_about.2.1 42 = .ok (.getfield 204, 3) := by decide +kernel
theorem dRM_about_45 : decode mRM_about.2.1 45 = .ok (.ireturn, 1) := by decide +kernel
theorem dRM_about_46 : decode mRM_about.2.1 46 = .ok (.iconst (-1), 1) := by decide +kernel
theorem dRM_about_47 : decode mRM_about.2.1 47 = .ok (.ireturn, 1) := by decide +kernel
theorem dRM_clue_0 : decode mRM_clue.2.1 0 = .ok (.aload_n 0, 1) := by decide +kernel
theorem dRM_clue_1 : decode mRM_clue.2.1 1 = .ok (.iload_n 1, 1) := by decide +kernel
theorem dRM_clue_2 : decode mRM_clue.2.1 2 = .ok (.iload_n 2, 1) := by decide +kernel
theorem dRM_clue_3 : decode mRM_clue.2.1 3 = .ok (.iload_n 3, 1) := by decide +kernel
theorem dRM_clue_4 : decode mRM_clue.2.1 4 = .ok (.iload 4, 2) := by decide +kernel
theorem dRM_clue_6 : decode mRM_clue.2.1 6 = .ok (.iload 5, 2) := by decide +kernel
theorem dRM_clue_8 : decode mRM_clue.2.1 8 = .ok (.iload 6, 2) := by decide +kernel
theorem dRM_clue_10 : decode mRM_clue.2.1 10 = .ok (.invokevirtual 65, 3) := by decide +kernel
theorem dRM_clue_13 : decode mRM_clue.2.1 13 = .ok (.ifCond .ne 13, 3) := by decide +kernel
theorem dRM_clue_16 : decode mRM_clue.2.1 16 = .ok (.new 69, 3) := by decide +kernel
theorem dRM_clue_19 : decode mRM_clue.2.1 19 = .ok (.dup, 1) := by decide +kernel
theorem dRM_clue_20 : decode mRM_clue.2.1 20 = .ok (.ldc 71, 2) := by decide +kernel
theorem dRM_clue_22 : decode mRM_clue.2.1 22 = .ok (.invokespecial 73, 3) := by decide +kernel
theorem dRM_clue_25 : decode mRM_clue.2.1 25 = .ok (.athrow, 1) := by decide +kernel
theorem dRM_clue_26 : decode mRM_clue.2.1 26 = .ok (.aload_n 0, 1) := by decide +kernel
theorem dRM_clue_27 : decode mRM_clue.2.1 27 = .ok (.iload_n 1, 1) := by decide +kernel
theorem dRM_clue_28 : decode mRM_clue.2.1 28 = .ok (.iload_n 2, 1) := by decide +kernel
theorem dRM_clue_29 : decode mRM_clue.2.1 29 = .ok (.iload_n 3, 1) := by decide +kernel
theorem dRM_clue_30 : decode mRM_clue.2.1 30 = .ok (.iload 4, 2) := by decide +kernel
theorem dRM_clue_32 : decode mRM_clue.2.1 32 = .ok (.iload 5, 2) := by decide +kernel
theorem dRM_clue_34 : decode mRM_clue.2.1 34 = .ok (.iload 6, 2) := by decide +kernel
theorem dRM_clue_36 : decode mRM_clue.2.1 36 = .ok (.invokestatic 76, 3) := by decide +kernel
theorem dRM_clue_39 : decode mRM_clue.2.1 39 = .ok (.invokevirtual 82, 3) := by decide +kernel
theorem dRM_clue_42 : decode mRM_clue.2.1 42 = .ok (.ireturn, 1) := by decide +kernel
theorem dRM_isAsTold_0 : decode mRM_isAsTold.2.1 0 = .ok (.iload_n 1, 1) := by decide +kernel
theorem dRM_isAsTold_1 : decode mRM_isAsTold.2.1 1 = .ok (.ifCond .lt 21, 3) := by decide +kernel
theorem dRM_isAsTold_4 : decode mRM_isAsTold.2.1 4 = .ok (.iload_n 1, 1) := by decide +kernel
theorem dRM_isAsTold_5 : decode mRM_isAsTold.2.1 5 = .ok (.bipush 10, 2) := by decide +kernel
theorem dRM_isAsTold_7 : decode mRM_isAsTold.2.1 7 = .ok (.if_icmp .ge 15, 3) := by decide +kernel
theorem dRM_isAsTold_10 : decode mRM_isAsTold.2.1 10 = .ok (.iload 6, 2) := by decide +kernel
theorem dRM_isAsTold_12 : decode mRM_isAsTold.2.1 12 = .ok (.iconst (-1), 1) := by decide +kernel
theorem dRM_isAsTold_13 : decode mRM_isAsTold.2.1 13 = .ok (.if_icmp .lt 9, 3) := by decide +kernel
theorem dRM_isAsTold_16 : decode mRM_isAsTold.2.1 16 = .ok (.iload 6, 2) := by decide +kernel
theorem dRM_isAsTold_18 : decode mRM_isAsTold.2.1 18 = .ok (.iconst 1, 1) := by decide +kernel
theorem dRM_isAsTold_19 : decode mRM_isAsTold.2.1 19 = .ok (.if_icmp .le 5, 3) := by decide +kernel
theorem dRM_isAsTold_22 : decode mRM_isAsTold.2.1 22 = .ok (.iconst 0, 1) := by decide +kernel
theorem dRM_isAsTold_23 : decode mRM_isAsTold.2.1 23 = .ok (.ireturn, 1) := by decide +kernel
theorem dRM_isAsTold_24 : decode mRM_isAsTold.2.1 24 = .ok (.iload_n 1, 1) := by decide +kernel
theorem dRM_isAsTold_25 : decode mRM_isAsTold.2.1 25 = .ok (.invokestatic 218, 3) := by decide +kernel
theorem dRM_isAsTold_28 : decode mRM_isAsTold.2.1 28 = .ok (.istore 7, 2) := by decide +kernel
theorem dRM_isAsTold_30 : decode mRM_isAsTold.2.1 30 = .ok (.aload_n 0, 1) := by decide +kernel
theorem dRM_isAsTold_31 : decode mRM_isAsTold.2.1 31 = .ok (.iload_n 2, 1) := by decide +kernel
theorem dRM_isAsTold_32 : decode mRM_isAsTold.2.1 32 = .ok (.invokevirtual 127, 3) := by decide +kernel
theorem dRM_isAsTold_35 : decode mRM_isAsTold.2.1 35 = .ok (.ifCond .eq 94, 3) := by decide +kernel
theorem dRM_isAsTold_38 : decode mRM_isAsTold.2.1 38 = .ok (.iload 7, 2) := by decide +kernel
theorem dRM_isAsTold_40 : decode mRM_isAsTold.2.1 40 = .ok (.iconst 2, 1) := by decide +kernel
theorem dRM_isAsTold_41 : decode mRM_isAsTold.2.1 41 = .ok (.if_icmp .lt 19, 3) := by decide +kernel
theorem dRM_isAsTold_44 : decode mRM_isAsTold.2.1 44 = .ok (.aload_n 0, 1) := by decide +kernel
theorem dRM_isAsTold_45 : decode mRM_isAsTold.2.1 45 = .ok (.iload_n 3, 1) := by decide +kernel
theorem dRM_isAsTold_46 : decode mRM_isAsTold.2.1 46 = .ok (.invokevirtual 127, 3) := by decide +kernel
theorem dRM_isAsTold_49 : decode mRM_isAsTold.2.1 49 = .ok (.ifCond .eq 80, 3) := by decide +kernel
theorem dRM_isAsTold_52 : decode mRM_isAsTold.2.1 52 = .ok (.iload_n 3, 1) := by decide +kernel
theorem dRM_isAsTold_53 : decode mRM_isAsTold.2.1 53 = .ok (.iload_n 2, 1) := by decide +kernel
theorem dRM_isAsTold_54 : decode mRM_isAsTold.2.1 54 = .ok (.if_icmp .eq 75, 3) := by decide +kernel
theorem dRM_isAsTold_57 : decode mRM_isAsTold.2.1 57 = .ok (.goto 7, 3) := by decide +kernel
theorem dRM_isAsTold_60 : decode mRM_isAsTold.2.1 60 = .ok (.iload_n 3, 1) := by decide +kernel
theorem dRM_isAsTold_61 : decode mRM_isAsTold.2.1 61 = .ok (.ifCond .ne 68, 3) := by decide +kernel
theorem dRM_isAsTold_64 : decode mRM_isAsTold.2.1 64 = .ok (.iload 7, 2) := by decide +kernel
theorem dRM_isAsTold_66 : decode mRM_isAsTold.2.1 66 = .ok (.iconst 3, 1) := by decide +kernel
theorem dRM_isAsTold_67 : decode mRM_isAsTold.2.1 67 = .ok (.if_icmp .ne 27, 3) := by decide +kernel
theorem dRM_isAsTold_70 : decode mRM_isAsTold.2.1 70 = .ok (.aload_n 0, 1) := by decide +kernel
theorem dRM_isAsTold_71 : decode mRM_isAsTold.2.1 71 = .ok (.iload 4, 2) := by decide +kernel
theorem dRM_isAsTold_73 : decode mRM_isAsTold.2.1 73 = .ok (.invokevirtual 127, 3) := by decide +kernel
theorem dRM_isAsTold_76 : decode mRM_isAsTold.2.1 76 = .ok (.ifCond .eq 53, 3) := by decide +kernel
theorem dRM_isAsTold_79 : decode mRM_isAsTold.2.1 79 = .ok (.iload 4, 2) := by decide +kernel
theorem dRM_isAsTold_81 : decode mRM_isAsTold.2.1 81 = .ok (.iload_n 2, 1) := by decide +kernel
theorem dRM_isAsTold_82 : decode mRM_isAsTold.2.1 82 = .ok (.if_icmp .eq 47, 3) := by decide +kernel
theorem dRM_isAsTold_85 : decode mRM_isAsTold.2.1 85 = .ok (.iload 4, 2) := by decide +kernel
theorem dRM_isAsTold_87 : decode mRM_isAsTold.2.1 87 = .ok (.iload_n 3, 1) := by decide +kernel
theorem dRM_isAsTold_88 : decode mRM_isAsTold.2.1 88 = .ok (.if_icmp .eq 41, 3) := by decide +kernel
theorem dRM_isAsTold_91 : decode mRM_isAsTold.2.1 91 = .ok (.goto 8, 3) := by decide +kernel
theorem dRM_isAsTold_94 : decode mRM_isAsTold.2.1 94 = .ok (.iload 4, 2) := by decide +kernel
theorem dRM_isAsTold_96 : decode mRM_isAsTold.2.1 96 = .ok (.ifCond .ne 33, 3) := by decide +kernel
theorem dRM_isAsTold_99 : decode mRM_isAsTold.2.1 99 = .ok (.iload 5, 2) := by decide +kernel
theorem dRM_isAsTold_101 : decode mRM_isAsTold.2.1 101 = .ok (.iload_n 1, 1) := by decide +kernel
theorem dRM_isAsTold_102 : decode mRM_isAsTold.2.1 102 = .ok (.invokestatic 221, 3) := by decide +kernel
theorem dRM_isAsTold_105 : decode mRM_isAsTold.2.1 105 = .ok (.if_icmp .lt 24, 3) := by decide +kernel
theorem dRM_isAsTold_108 : decode mRM_isAsTold.2.1 108 = .ok (.iload 5, 2) := by decide +kernel
theorem dRM_isAsTold_110 : decode mRM_isAsTold.2.1 110 = .ok (.iload_n 1, 1) := by decide +kernel
theorem dRM_isAsTold_111 : decode mRM_isAsTold.2.1 111 = .ok (.aload_n 0, 1) := by decide +kernel
theorem dRM_isAsTold_112 : decode mRM_isAsTold.2.1 112 = .ok (.getfield 16, 3) := by decide +kernel
theorem dRM_isAsTold_115 : decode mRM_isAsTold.2.1 115 = .ok (.aload_n 0, 1) := by decide +kernel
theorem dRM_isAsTold_116 : decode mRM_isAsTold.2.1 116 = .ok (.getfield 22, 3) := by decide +kernel
theorem dRM_isAsTold_119 : decode mRM_isAsTold.2.1 119 = .ok (.invokestatic 224, 3) := by decide +kernel
theorem dRM_isAsTold_122 : decode mRM_isAsTold.2.1 122 = .ok (.if_icmp .gt 7, 3) := by decide +kernel
theorem dRM_isAsTold_125 : decode mRM_isAsTold.2.1 125 = .ok (.iconst 1, 1) := by decide +kernel
theorem dRM_isAsTold_126 : decode mRM_isAsTold.2.1 126 = .ok (.goto 4, 3) := by decide +kernel
theorem dRM_isAsTold_129 : decode mRM_isAsTold.2.1 129 = .ok (.iconst 0, 1) := by decide +kernel
theorem dRM_isAsTold_130 : decode mRM_isAsTold.2.1 130 = .ok (.ireturn, 1) := by decide +kernel
theorem dRM_added_0 : decode mRM_added.2.1 0 = .ok (.aload_n 0, 1) := by decide +kernel
theorem dRM_added_1 : decode mRM_added.2.1 1 = .ok (.getfield 28, 3) := by decide +kernel
theorem dRM_added_4 : decode mRM_added.2.1 4 = .ok (.getfield 204, 3) := by decide +kernel
theorem dRM_added_7 : decode mRM_added.2.1 7 = .ok (.bipush 30, 2) := by decide +kernel
theorem dRM_added_9 : decode mRM_added.2.1 9 = .ok (.if_icmp .ge 14, 3) := by decide +kernel
theorem dRM_added_12 : decode mRM_added.2.1 12 = .ok (.aload_n 0, 1) := by decide +kernel
theorem dRM_added_13 : decode mRM_added.2.1 13 = .ok (.getfield 28, 3) := by decide +kernel
theorem dRM_added_16 : decode mRM_added.2.1 16 = .ok (.iload_n 1, 1) := by decide +kernel
theorem dRM_added_17 : decode mRM_added.2.1 17 = .ok (.invokevirtual 207, 3) := by decide +kernel
theorem dRM_added_20 : decode mRM_added.2.1 20 = .ok (.ifCond .eq 13, 3) := by decide +kernel
theorem dRM_added_23 : decode mRM_added.2.1 23 = .ok (.new 210, 3) := by decide +kernel
theorem dRM_added_26 : decode mRM_added.2.1 26 = .ok (.dup, 1) := by decide +kernel
theorem dRM_added_27 : decode mRM_added.2.1 27 = .ok (.ldc 212, 2) := by decide +kernel
theorem dRM_added_29 : decode mRM_added.2.1 29 = .ok (.invokespecial 214, 3) := by decide +kernel
theorem dRM_added_32 : decode mRM_added.2.1 32 = .ok (.athrow, 1) := by decide +kernel
theorem dRM_added_33 : decode mRM_added.2.1 33 = .ok (.aload_n 0, 1) := by decide +kernel
theorem dRM_added_34 : decode mRM_added.2.1 34 = .ok (.getfield 28, 3) := by decide +kernel
theorem dRM_added_37 : decode mRM_added.2.1 37 = .ok (.iload_n 1, 1) := by decide +kernel
theorem dRM_added_38 : decode mRM_added.2.1 38 = .ok (.invokevirtual 215, 3) := by decide +kernel
theorem dRM_added_41 : decode mRM_added.2.1 41 = .ok (.aload_n 0, 1) := by decide +kernel
theorem dRM_added_42 : decode mRM_added.2.1 42 = .ok (.getfield 28, 3) := by decide +kernel
theorem dRM_added_45 : decode mRM_added.2.1 45 = .ok (.getfield 204, 3) := by decide +kernel
theorem dRM_added_48 : decode mRM_added.2.1 48 = .ok (.iconst 1, 1) := by decide +kernel
theorem dRM_added_49 : decode mRM_added.2.1 49 = .ok (.isub, 1) := by decide +kernel
theorem dRM_added_50 : decode mRM_added.2.1 50 = .ok (.ireturn, 1) := by decide +kernel
theorem dRM_drop_0 : decode mRM_drop.2.1 0 = .ok (.aload_n 0, 1) := by decide +kernel
theorem dRM_drop_1 : decode mRM_drop.2.1 1 = .ok (.getfield 28, 3) := by decide +kernel
theorem dRM_drop_4 : decode mRM_drop.2.1 4 = .ok (.iload_n 1, 1) := by decide +kernel
theorem dRM_drop_5 : decode mRM_drop.2.1 5 = .ok (.invokevirtual 86, 3) := by decide +kernel
theorem dRM_drop_8 : decode mRM_drop.2.1 8 = .ok (.ifCond .ne 13, 3) := by decide +kernel
theorem dRM_drop_11 : decode mRM_drop.2.1 11 = .ok (.new 90, 3) := by decide +kernel
theorem dRM_drop_14 : decode mRM_drop.2.1 14 = .ok (.dup, 1) := by decide +kernel
theorem dRM_drop_15 : decode mRM_drop.2.1 15 = .ok (.ldc 92, 2) := by decide +kernel
theorem dRM_drop_17 : decode mRM_drop.2.1 17 = .ok (.invokespecial 94, 3) := by decide +kernel
theorem dRM_drop_20 : decode mRM_drop.2.1 20 = .ok (.athrow, 1) := by decide +kernel
theorem dRM_drop_21 : decode mRM_drop.2.1 21 = .ok (.aload_n 0, 1) := by decide +kernel
theorem dRM_drop_22 : decode mRM_drop.2.1 22 = .ok (.getfield 28, 3) := by decide +kernel
theorem dRM_drop_25 : decode mRM_drop.2.1 25 = .ok (.iload_n 1, 1) := by decide +kernel
theorem dRM_drop_26 : decode mRM_drop.2.1 26 = .ok (.invokevirtual 95, 3) := by decide +kernel
theorem dRM_drop_29 : decode mRM_drop.2.1 29 = .ok (.return_, 1) := by decide +kernel
theorem dRM_count_0 : decode mRM_count.2.1 0 = .ok (.iload_n 1, 1) := by decide +kernel
theorem dRM_count_1 : decode mRM_count.2.1 1 = .ok (.ifCond .ge 13, 3) := by decide +kernel
theorem dRM_count_4 : decode mRM_count.2.1 4 = .ok (.new 69, 3) := by decide +kernel
theorem dRM_count_7 : decode mRM_count.2.1 7 = .ok (.dup, 1) := by decide +kernel
theorem dRM_count_8 : decode mRM_count.2.1 8 = .ok (.ldc 121, 2) := by decide +kernel
theorem dRM_count_10 : decode mRM_count.2.1 10 = .ok (.invokespecial 73, 3) := by decide +kernel
theorem dRM_count_13 : decode mRM_count.2.1 13 = .ok (.athrow, 1) := by decide +kernel
theorem dRM_count_14 : decode mRM_count.2.1 14 = .ok (.aload_n 0, 1) := by decide +kernel
theorem dRM_count_15 : decode mRM_count.2.1 15 = .ok (.getfield 37, 3) := by decide +kernel
theorem dRM_count_18 : decode mRM_count.2.1 18 = .ok (.aload_n 0, 1) := by decide +kernel
theorem dRM_count_19 : decode mRM_count.2.1 19 = .ok (.getfield 28, 3) := by decide +kernel
theorem dRM_count_22 : decode mRM_count.2.1 22 = .ok (.iload_n 1, 1) := by decide +kernel
theorem dRM_count_23 : decode mRM_count.2.1 23 = .ok (.invokevirtual 123, 3) := by decide +kernel
theorem dRM_count_26 : decode mRM_count.2.1 26 = .ok (.ireturn, 1) := by decide +kernel
theorem dRM_needed_0 : decode mRM_needed.2.1 0 = .ok (.aload_n 0, 1) := by decide +kernel
theorem dRM_needed_1 : decode mRM_needed.2.1 1 = .ok (.getfield 28, 3) := by decide +kernel
theorem dRM_needed_4 : decode mRM_needed.2.1 4 = .ok (.iload_n 1, 1) := by decide +kernel
theorem dRM_needed_5 : decode mRM_needed.2.1 5 = .ok (.invokevirtual 86, 3) := by decide +kernel
theorem dRM_needed_8 : decode mRM_needed.2.1 8 = .ok (.ifCond .ne 13, 3) := by decide +kernel
theorem dRM_needed_11 : decode mRM_needed.2.1 11 = .ok (.new 90, 3) := by decide +kernel
theorem dRM_needed_14 : decode mRM_needed.2.1 14 = .ok (.dup, 1) := by decide +kernel
theorem dRM_needed_15 : decode mRM_needed.2.1 15 = .ok (.ldc 92, 2) := by decide +kernel
theorem dRM_needed_17 : decode mRM_needed.2.1 17 = .ok (.invokespecial 94, 3) := by decide +kernel
theorem dRM_needed_20 : decode mRM_needed.2.1 20 = .ok (.athrow, 1) := by decide +kernel
theorem dRM_needed_21 : decode mRM_needed.2.1 21 = .ok (.aload_n 0, 1) := by decide +kernel
theorem dRM_needed_22 : decode mRM_needed.2.1 22 = .ok (.getfield 37, 3) := by decide +kernel
theorem dRM_needed_25 : decode mRM_needed.2.1 25 = .ok (.aload_n 0, 1) := by decide +kernel
theorem dRM_needed_26 : decode mRM_needed.2.1 26 = .ok (.getfield 28, 3) := by decide +kernel
theorem dRM_needed_29 : decode mRM_needed.2.1 29 = .ok (.iload_n 1, 1) := by decide +kernel
theorem dRM_needed_30 : decode mRM_needed.2.1 30 = .ok (.invokevirtual 133, 3) := by decide +kernel
theorem dRM_needed_33 : decode mRM_needed.2.1 33 = .ok (.ireturn, 1) := by decide +kernel
theorem dRM_make_0 : decode mRM_make.2.1 0 = .ok (.iload_n 1, 1) := by decide +kernel
theorem dRM_make_1 : decode mRM_make.2.1 1 = .ok (.iconst 1, 1) := by decide +kernel
theorem dRM_make_2 : decode mRM_make.2.1 2 = .ok (.if_icmp .lt 19, 3) := by decide +kernel
theorem dRM_make_5 : decode mRM_make.2.1 5 = .ok (.iload_n 1, 1) := by decide +kernel
theorem dRM_make_6 : decode mRM_make.2.1 6 = .ok (.ldc 162, 2) := by decide +kernel
theorem dRM_make_8 : decode mRM_make.2.1 8 = .ok (.if_icmp .gt 13, 3) := by decide +kernel
theorem dRM_make_11 : decode mRM_make.2.1 11 = .ok (.iload_n 2, 1) := by decide +kernel
theorem dRM_make_12 : decode mRM_make.2.1 12 = .ok (.iconst 1, 1) := by decide +kernel
theorem dRM_make_13 : decode mRM_make.2.1 13 = .ok (.if_icmp .lt 8, 3) := by decide +kernel
theorem dRM_make_16 : decode mRM_make.2.1 16 = .ok (.iload_n 2, 1) := by decide +kernel
theorem dRM_make_17 : decode mRM_make.2.1 17 = .ok (.iconst 5, 1) := by decide +kernel
theorem dRM_make_18 : decode mRM_make.2.1 18 = .ok (.if_icmp .le 13, 3) := by decide +kernel
theorem dRM_make_21 : decode mRM_make.2.1 21 = .ok (.new 69, 3) := by decide +kernel
theorem dRM_make_24 : decode mRM_make.2.1 24 = .ok (.dup, 1) := by decide +kernel
theorem dRM_make_25 : decode mRM_make.2.1 25 = .ok (.ldc 163, 2) := by decide +kernel
theorem dRM_make_27 : decode mRM_make.2.1 27 = .ok (.invokespecial 73, 3) := by decide +kernel
theorem dRM_make_30 : decode mRM_make.2.1 30 = .ok (.athrow, 1) := by decide +kernel
theorem dRM_make_31 : decode mRM_make.2.1 31 = .ok (.aload_n 0, 1) := by decide +kernel
theorem dRM_make_32 : decode mRM_make.2.1 32 = .ok (.getfield 54, 3) := by decide +kernel
theorem dRM_make_35 : decode mRM_make.2.1 35 = .ok (.iload_n 1, 1) := by decide +kernel
theorem dRM_make_36 : decode mRM_make.2.1 36 = .ok (.iload_n 2, 1) := by decide +kernel
theorem dRM_make_37 : decode mRM_make.2.1 37 = .ok (.aload_n 0, 1) := by decide +kernel
theorem dRM_make_38 : decode mRM_make.2.1 38 = .ok (.getfield 37, 3) := by decide +kernel
theorem dRM_make_41 : decode mRM_make.2.1 41 = .ok (.aload_n 0, 1) := by decide +kernel
theorem dRM_make_42 : decode mRM_make.2.1 42 = .ok (.getfield 48, 3) := by decide +kernel
theorem dRM_make_45 : decode mRM_make.2.1 45 = .ok (.invokevirtual 165, 3) := by decide +kernel
theorem dRM_make_48 : decode mRM_make.2.1 48 = .ok (.istore_n 3, 1) := by decide +kernel
theorem dRM_make_49 : decode mRM_make.2.1 49 = .ok (.iload_n 3, 1) := by decide +kernel
theorem dRM_make_50 : decode mRM_make.2.1 50 = .ok (.ifCond .le 17, 3) := by decide +kernel
theorem dRM_make_53 : decode mRM_make.2.1 53 = .ok (.aload_n 0, 1) := by decide +kernel
theorem dRM_make_54 : decode mRM_make.2.1 54 = .ok (.getfield 28, 3) := by decide +kernel
theorem dRM_make_57 : decode mRM_make.2.1 57 = .ok (.aload_n 0, 1) := by decide +kernel
theorem dRM_make_58 : decode mRM_make.2.1 58 = .ok (.getfield 54, 3) := by decide +kernel
theorem dRM_make_61 : decode mRM_make.2.1 61 = .ok (.getfield 169, 3) := by decide +kernel
theorem dRM_make_64 : decode mRM_make.2.1 64 = .ok (.invokevirtual 172, 3) := by decide +kernel
theorem dRM_make_67 : decode mRM_make.2.1 67 = .ok (.iload_n 3, 1) := by decide +kernel
theorem dRM_make_68 : decode mRM_make.2.1 68 = .ok (.ireturn, 1) := by decide +kernel
theorem dRM_read_0 : decode mRM_read.2.1 0 = .ok (.aload_n 0, 1) := by decide +kernel
theorem dRM_read_1 : decode mRM_read.2.1 1 = .ok (.getfield 61, 3) := by decide +kernel
theorem dRM_read_4 : decode mRM_read.2.1 4 = .ok (.invokevirtual 192, 3) := by decide +kernel
theorem dRM_read_7 : decode mRM_read.2.1 7 = .ok (.ifCond .ne 13, 3) := by decide +kernel
theorem dRM_read_10 : decode mRM_read.2.1 10 = .ok (.new 69, 3) := by decide +kernel
theorem dRM_read_13 : decode mRM_read.2.1 13 = .ok (.dup, 1) := by decide +kernel
theorem dRM_read_14 : decode mRM_read.2.1 14 = .ok (.ldc 196, 2) := by decide +kernel
theorem dRM_read_16 : decode mRM_read.2.1 16 = .ok (.invokespecial 73, 3) := by decide +kernel
theorem dRM_read_19 : decode mRM_read.2.1 19 = .ok (.athrow, 1) := by decide +kernel
theorem dRM_read_20 : decode mRM_read.2.1 20 = .ok (.aload_n 0, 1) := by decide +kernel
theorem dRM_read_21 : decode mRM_read.2.1 21 = .ok (.getfield 61, 3) := by decide +kernel
theorem dRM_read_24 : decode mRM_read.2.1 24 = .ok (.getfield 198, 3) := by decide +kernel
theorem dRM_read_27 : decode mRM_read.2.1 27 = .ok (.istore_n 1, 1) := by decide +kernel
theorem dRM_read_28 : decode mRM_read.2.1 28 = .ok (.aload_n 0, 1) := by decide +kernel
theorem dRM_read_29 : decode mRM_read.2.1 29 = .ok (.iload_n 1, 1) := by decide +kernel
theorem dRM_read_30 : decode mRM_read.2.1 30 = .ok (.invokestatic 103, 3) := by decide +kernel
theorem dRM_read_33 : decode mRM_read.2.1 33 = .ok (.iload_n 1, 1) := by decide +kernel
theorem dRM_read_34 : decode mRM_read.2.1 34 = .ok (.invokestatic 106, 3) := by decide +kernel
theorem dRM_read_37 : decode mRM_read.2.1 37 = .ok (.iload_n 1, 1) := by decide +kernel
theorem dRM_read_38 : decode mRM_read.2.1 38 = .ok (.invokestatic 109, 3) := by decide +kernel
theorem dRM_read_41 : decode mRM_read.2.1 41 = .ok (.iload_n 1, 1) := by decide +kernel
theorem dRM_read_42 : decode mRM_read.2.1 42 = .ok (.invokestatic 112, 3) := by decide +kernel
theorem dRM_read_45 : decode mRM_read.2.1 45 = .ok (.iload_n 1, 1) := by decide +kernel
theorem dRM_read_46 : decode mRM_read.2.1 46 = .ok (.invokestatic 115, 3) := by decide +kernel
theorem dRM_read_49 : decode mRM_read.2.1 49 = .ok (.iload_n 1, 1) := by decide +kernel
theorem dRM_read_50 : decode mRM_read.2.1 50 = .ok (.invokestatic 118, 3) := by decide +kernel
theorem dRM_read_53 : decode mRM_read.2.1 53 = .ok (.invokevirtual 65, 3) := by decide +kernel
theorem dRM_read_56 : decode mRM_read.2.1 56 = .ok (.ifCond .ne 22, 3) := by decide +kernel
theorem dRM_read_59 : decode mRM_read.2.1 59 = .ok (.aload_n 0, 1) := by decide +kernel
theorem dRM_read_60 : decode mRM_read.2.1 60 = .ok (.getfield 61, 3) := by decide +kernel
theorem dRM_read_63 : decode mRM_read.2.1 63 = .ok (.bipush (-2), 2) := by decide +kernel
theorem dRM_read_65 : decode mRM_read.2.1 65 = .ok (.putfield 201, 3) := by decide +kernel
theorem dRM_read_68 : decode mRM_read.2.1 68 = .ok (.new 69, 3) := by decide +kernel
theorem dRM_read_71 : decode mRM_read.2.1 71 = .ok (.dup, 1) := by decide +kernel
theorem dRM_read_72 : decode mRM_read.2.1 72 = .ok (.ldc 71, 2) := by decide +kernel
theorem dRM_read_74 : decode mRM_read.2.1 74 = .ok (.invokespecial 73, 3) := by decide +kernel
theorem dRM_read_77 : decode mRM_read.2.1 77 = .ok (.athrow, 1) := by decide +kernel
theorem dRM_read_78 : decode mRM_read.2.1 78 = .ok (.aload_n 0, 1) := by decide +kernel
theorem dRM_read_79 : decode mRM_read.2.1 79 = .ok (.iload_n 1, 1) := by decide +kernel
theorem dRM_read_80 : decode mRM_read.2.1 80 = .ok (.invokevirtual 82, 3) := by decide +kernel
theorem dRM_read_83 : decode mRM_read.2.1 83 = .ok (.ireturn, 1) := by decide +kernel
