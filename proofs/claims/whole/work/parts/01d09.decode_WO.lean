theorem dWO_init_0 : decode mWO_init.2.1 0 = .ok (.aload_n 0, 1) := by decide +kernel
theorem dWO_init_1 : decode mWO_init.2.1 1 = .ok (.invokespecial 3, 3) := by decide +kernel
theorem dWO_init_4 : decode mWO_init.2.1 4 = .ok (.aload_n 0, 1) := by decide +kernel
theorem dWO_init_5 : decode mWO_init.2.1 5 = .ok (.bipush 40, 2) := by decide +kernel
theorem dWO_init_7 : decode mWO_init.2.1 7 = .ok (.newarray .int, 2) := by decide +kernel
theorem dWO_init_9 : decode mWO_init.2.1 9 = .ok (.putfield 9, 3) := by decide +kernel
theorem dWO_init_12 : decode mWO_init.2.1 12 = .ok (.aload_n 0, 1) := by decide +kernel
theorem dWO_init_13 : decode mWO_init.2.1 13 = .ok (.bipush 40, 2) := by decide +kernel
theorem dWO_init_15 : decode mWO_init.2.1 15 = .ok (.newarray .int, 2) := by decide +kernel
theorem dWO_init_17 : decode mWO_init.2.1 17 = .ok (.putfield 15, 3) := by decide +kernel
theorem dWO_init_20 : decode mWO_init.2.1 20 = .ok (.aload_n 0, 1) := by decide +kernel
theorem dWO_init_21 : decode mWO_init.2.1 21 = .ok (.iconst 4, 1) := by decide +kernel
theorem dWO_init_22 : decode mWO_init.2.1 22 = .ok (.newarray .int, 2) := by decide +kernel
theorem dWO_init_24 : decode mWO_init.2.1 24 = .ok (.putfield 18, 3) := by decide +kernel
theorem dWO_init_27 : decode mWO_init.2.1 27 = .ok (.aload_n 0, 1) := by decide +kernel
theorem dWO_init_28 : decode mWO_init.2.1 28 = .ok (.bipush 30, 2) := by decide +kernel
theorem dWO_init_30 : decode mWO_init.2.1 30 = .ok (.newarray .int, 2) := by decide +kernel
theorem dWO_init_32 : decode mWO_init.2.1 32 = .ok (.putfield 21, 3) := by decide +kernel
theorem dWO_init_35 : decode mWO_init.2.1 35 = .ok (.aload_n 0, 1) := by decide +kernel
theorem dWO_init_36 : decode mWO_init.2.1 36 = .ok (.bipush 30, 2) := by decide +kernel
theorem dWO_init_38 : decode mWO_init.2.1 38 = .ok (.newarray .int, 2) := by decide +kernel
theorem dWO_init_40 : decode mWO_init.2.1 40 = .ok (.putfield 24, 3) := by decide +kernel
theorem dWO_init_43 : decode mWO_init.2.1 43 = .ok (.aload_n 0, 1) := by decide +kernel
theorem dWO_init_44 : decode mWO_init.2.1 44 = .ok (.bipush 40, 2) := by decide +kernel
theorem dWO_init_46 : decode mWO_init.2.1 46 = .ok (.newarray .int, 2) := by decide +kernel
theorem dWO_init_48 : decode mWO_init.2.1 48 = .ok (.putfield 27, 3) := by decide +kernel
theorem dWO_init_51 : decode mWO_init.2.1 51 = .ok (.aload_n 0, 1) := by decide +kernel
theorem dWO_init_52 : decode mWO_init.2.1 52 = .ok (.iload_n 1, 1) := by decide +kernel
theorem dWO_init_53 : decode mWO_init.2.1 53 = .ok (.putfield 30, 3) := by decide +kernel
theorem dWO_init_56 : decode mWO_init.2.1 56 = .ok (.aload_n 0, 1) := by decide +kernel
theorem dWO_init_57 : decode mWO_init.2.1 57 = .ok (.iload_n 1, 1) := by decide +kernel
theorem dWO_init_58 : decode mWO_init.2.1 58 = .ok (.iload_n 2, 1) := by decide +kernel
theorem dWO_init_59 : decode mWO_init.2.1 59 = .ok (.imul, 1) := by decide +kernel
theorem dWO_init_60 : decode mWO_init.2.1 60 = .ok (.putfield 34, 3) := by decide +kernel
theorem dWO_init_63 : decode mWO_init.2.1 63 = .ok (.return_, 1) := by decide +kernel
theorem dWO_alike_0 : decode mWO_alike.2.1 0 = .ok (.aload_n 0, 1) := by decide +kernel
theorem dWO_alike_1 : decode mWO_alike.2.1 1 = .ok (.aload_n 1, 1) := by decide +kernel
theorem dWO_alike_2 : decode mWO_alike.2.1 2 = .ok (.iconst (-1), 1) := by decide +kernel
theorem dWO_alike_3 : decode mWO_alike.2.1 3 = .ok (.invokevirtual 37, 3) := by decide +kernel
theorem dWO_alike_6 : decode mWO_alike.2.1 6 = .ok (.aload_n 0, 1) := by decide +kernel
theorem dWO_alike_7 : decode mWO_alike.2.1 7 = .ok (.iload_n 2, 1) := by decide +kernel
theorem dWO_alike_8 : decode mWO_alike.2.1 8 = .ok (.putfield 63, 3) := by decide +kernel
theorem dWO_alike_11 : decode mWO_alike.2.1 11 = .ok (.aload_n 0, 1) := by decide +kernel
theorem dWO_alike_12 : decode mWO_alike.2.1 12 = .ok (.iconst 0, 1) := by decide +kernel
theorem dWO_alike_13 : decode mWO_alike.2.1 13 = .ok (.bipush 15, 2) := by decide +kernel
theorem dWO_alike_15 : decode mWO_alike.2.1 15 = .ok (.invokevirtual 44, 3) := by decide +kernel
theorem dWO_alike_18 : decode mWO_alike.2.1 18 = .ok (.aload_n 0, 1) := by decide +kernel
theorem dWO_alike_19 : decode mWO_alike.2.1 19 = .ok (.getfield 66, 3) := by decide +kernel
theorem dWO_alike_22 : decode mWO_alike.2.1 22 = .ok (.ifCond .eq 13, 3) := by decide +kernel
theorem dWO_alike_25 : decode mWO_alike.2.1 25 = .ok (.aload_n 0, 1) := by decide +kernel
theorem dWO_alike_26 : decode mWO_alike.2.1 26 = .ok (.getfield 66, 3) := by decide +kernel
theorem dWO_alike_29 : decode mWO_alike.2.1 29 = .ok (.invokestatic 69, 3) := by decide +kernel
theorem dWO_alike_32 : decode mWO_alike.2.1 32 = .ok (.ifCond .eq 7, 3) := by decide +kernel
theorem dWO_alike_35 : decode mWO_alike.2.1 35 = .ok (.iconst (-1), 1) := by decide +kernel
theorem dWO_alike_36 : decode mWO_alike.2.1 36 = .ok (.goto 12, 3) := by decide +kernel
theorem dWO_alike_39 : decode mWO_alike.2.1 39 = .ok (.aload_n 0, 1) := by decide +kernel
theorem dWO_alike_40 : decode mWO_alike.2.1 40 = .ok (.getfield 66, 3) := by decide +kernel
theorem dWO_alike_43 : decode mWO_alike.2.1 43 = .ok (.iconst 1, 1) := by decide +kernel
theorem dWO_alike_44 : decode mWO_alike.2.1 44 = .ok (.isub, 1) := by decide +kernel
theorem dWO_alike_45 : decode mWO_alike.2.1 45 = .ok (.invokestatic 73, 3) := by decide +kernel
theorem dWO_alike_48 : decode mWO_alike.2.1 48 = .ok (.ireturn, 1) := by decide +kernel
theorem dWO_prepare_0 : decode mWO_prepare.2.1 0 = .ok (.aload_n 0, 1) := by decide +kernel
theorem dWO_prepare_1 : decode mWO_prepare.2.1 1 = .ok (.ldc 79, 2) := by decide +kernel
theorem dWO_prepare_3 : decode mWO_prepare.2.1 3 = .ok (.putfield 41, 3) := by decide +kernel
theorem dWO_prepare_6 : decode mWO_prepare.2.1 6 = .ok (.aload_n 0, 1) := by decide +kernel
theorem dWO_prepare_7 : decode mWO_prepare.2.1 7 = .ok (.ldc 79, 2) := by decide +kernel
theorem dWO_prepare_9 : decode mWO_prepare.2.1 9 = .ok (.putfield 57, 3) := by decide +kernel
theorem dWO_prepare_12 : decode mWO_prepare.2.1 12 = .ok (.aload_n 0, 1) := by decide +kernel
theorem dWO_prepare_13 : decode mWO_prepare.2.1 13 = .ok (.iconst (-1), 1) := by decide +kernel
theorem dWO_prepare_14 : decode mWO_prepare.2.1 14 = .ok (.putfield 63, 3) := by decide +kernel
theorem dWO_prepare_17 : decode mWO_prepare.2.1 17 = .ok (.aload_n 0, 1) := by decide +kernel
theorem dWO_prepare_18 : decode mWO_prepare.2.1 18 = .ok (.iconst 0, 1) := by decide +kernel
theorem dWO_prepare_19 : decode mWO_prepare.2.1 19 = .ok (.putfield 48, 3) := by decide +kernel
theorem dWO_prepare_22 : decode mWO_prepare.2.1 22 = .ok (.aload_n 0, 1) := by decide +kernel
theorem dWO_prepare_23 : decode mWO_prepare.2.1 23 = .ok (.iconst 0, 1) := by decide +kernel
theorem dWO_prepare_24 : decode mWO_prepare.2.1 24 = .ok (.putfield 60, 3) := by decide +kernel
theorem dWO_prepare_27 : decode mWO_prepare.2.1 27 = .ok (.aload_n 0, 1) := by decide +kernel
theorem dWO_prepare_28 : decode mWO_prepare.2.1 28 = .ok (.iconst 0, 1) := by decide +kernel
theorem dWO_prepare_29 : decode mWO_prepare.2.1 29 = .ok (.putfield 66, 3) := by decide +kernel
theorem dWO_prepare_32 : decode mWO_prepare.2.1 32 = .ok (.aload_n 0, 1) := by decide +kernel
theorem dWO_prepare_33 : decode mWO_prepare.2.1 33 = .ok (.iconst 0, 1) := by decide +kernel
theorem dWO_prepare_34 : decode mWO_prepare.2.1 34 = .ok (.putfield 80, 3) := by decide +kernel
theorem dWO_prepare_37 : decode mWO_prepare.2.1 37 = .ok (.iconst 0, 1) := by decide +kernel
theorem dWO_prepare_38 : decode mWO_prepare.2.1 38 = .ok (.istore_n 3, 1) := by decide +kernel
theorem dWO_prepare_39 : decode mWO_prepare.2.1 39 = .ok (.iload_n 3, 1) := by decide +kernel
theorem dWO_prepare_40 : decode mWO_prepare.2.1 40 = .ok (.aload_n 1, 1) := by decide +kernel
theorem dWO_prepare_41 : decode mWO_prepare.2.1 41 = .ok (.getfield 84, 3) := by decide +kernel
theorem dWO_prepare_44 : decode mWO_prepare.2.1 44 = .ok (.if_icmp .ge 34, 3) := by decide +kernel
theorem dWO_prepare_47 : decode mWO_prepare.2.1 47 = .ok (.aload_n 0, 1) := by decide +kernel
theorem dWO_prepare_48 : decode mWO_prepare.2.1 48 = .ok (.getfield 24, 3) := by decide +kernel
theorem dWO_prepare_51 : decode mWO_prepare.2.1 51 = .ok (.iload_n 3, 1) := by decide +kernel
theorem dWO_prepare_52 : decode mWO_prepare.2.1 52 = .ok (.iload_n 3, 1) := by decide +kernel
theorem dWO_prepare_53 : decode mWO_prepare.2.1 53 = .ok (.iload_n 2, 1) := by decide +kernel
theorem dWO_prepare_54 : decode mWO_prepare.2.1 54 = .ok (.if_icmp .ne 7, 3) := by decide +kernel
theorem dWO_prepare_57 : decode mWO_prepare.2.1 57 = .ok (.iconst (-1), 1) := by decide +kernel
theorem dWO_prepare_58 : decode mWO_prepare.2.1 58 = .ok (.goto 13, 3) := by decide +kernel
theorem dWO_prepare_61 : decode mWO_prepare.2.1 61 = .ok (.aload_n 0, 1) := by decide +kernel
theorem dWO_prepare_62 : decode mWO_prepare.2.1 62 = .ok (.aload_n 1, 1) := by decide +kernel
theorem dWO_prepare_63 : decode mWO_prepare.2.1 63 = .ok (.getfield 89, 3) := by decide +kernel
theorem dWO_prepare_66 : decode mWO_prepare.2.1 66 = .ok (.iload_n 3, 1) := by decide +kernel
theorem dWO_prepare_67 : decode mWO_prepare.2.1 67 = .ok (.iaload, 1) := by decide +kernel
theorem dWO_prepare_68 : decode mWO_prepare.2.1 68 = .ok (.invokevirtual 92, 3) := by decide +kernel
theorem dWO_prepare_71 : decode mWO_prepare.2.1 71 = .ok (.iastore, 1) := by decide +kernel
theorem dWO_prepare_72 : decode mWO_prepare.2.1 72 = .ok (.iinc 3 1, 3) := by decide +kernel
theorem dWO_prepare_75 : decode mWO_prepare.2.1 75 = .ok (.goto (-36), 3) := by decide +kernel
theorem dWO_prepare_78 : decode mWO_prepare.2.1 78 = .ok (.iconst 0, 1) := by decide +kernel
theorem dWO_prepare_79 : decode mWO_prepare.2.1 79 = .ok (.istore_n 3, 1) := by decide +kernel
theorem dWO_prepare_80 : decode mWO_prepare.2.1 80 = .ok (.iconst 0, 1) := by decide +kernel
theorem dWO_prepare_81 : decode mWO_prepare.2.1 81 = .ok (.istore 4, 2) := by decide +kernel
theorem dWO_prepare_83 : decode mWO_prepare.2.1 83 = .ok (.iload 4, 2) := by decide +kernel
theorem dWO_prepare_85 : decode mWO_prepare.2.1 85 = .ok (.aload_n 0, 1) := by decide +kernel
theorem dWO_prepare_86 : decode mWO_prepare.2.1 86 = .ok (.getfield 34, 3) := by decide +kernel
theorem dWO_prepare_89 : decode mWO_prepare.2.1 89 = .ok (.if_icmp .ge 63, 3) := by decide +kernel
theorem dWO_prepare_92 : decode mWO_prepare.2.1 92 = .ok (.aload_n 0, 1) := by decide +kernel
theorem dWO_prepare_93 : decode mWO_prepare.2.1 93 = .ok (.getfield 27, 3) := by decide +kernel
theorem dWO_prepare_96 : decode mWO_prepare.2.1 96 = .ok (.iload 4, 2) := by decide +kernel
theorem dWO_prepare_98 : decode mWO_prepare.2.1 98 = .ok (.iload_n 3, 1) := by decide +kernel
theorem dWO_prepare_99 : decode mWO_prepare.2.1 99 = .ok (.iastore, 1) := by decide +kernel
theorem dWO_prepare_100 : decode mWO_prepare.2.1 100 = .ok (.iconst 0, 1) := by decide +kernel
theorem dWO_prepare_101 : decode mWO_prepare.2.1 101 = .ok (.istore 5, 2) := by decide +kernel
theorem dWO_prepare_103 : decode mWO_prepare.2.1 103 = .ok (.iload 5, 2) := by decide +kernel
theorem dWO_prepare_105 : decode mWO_prepare.2.1 105 = .ok (.aload_n 1, 1) := by decide +kernel
theorem dWO_prepare_106 : decode mWO_prepare.2.1 106 = .ok (.getfield 84, 3) := by decide +kernel
theorem dWO_prepare_109 : decode mWO_prepare.2.1 109 = .ok (.if_icmp .ge 37, 3) := by decide +kernel
theorem dWO_prepare_112 : decode mWO_prepare.2.1 112 = .ok (.aload_n 0, 1) := by decide +kernel
theorem dWO_prepare_113 : decode mWO_prepare.2.1 113 = .ok (.getfield 24, 3) := by decide +kernel
theorem dWO_prepare_116 : decode mWO_prepare.2.1 116 = .ok (.iload 5, 2) := by decide +kernel
theorem dWO_prepare_118 : decode mWO_prepare.2.1 118 = .ok (.iaload, 1) := by decide +kernel
theorem dWO_prepare_119 : decode mWO_prepare.2.1 119 = .ok (.iload 4, 2) := by decide +kernel
theorem dWO_prepare_121 : decode mWO_prepare.2.1 121 = .ok (.if_icmp .ne 19, 3) := by decide +kernel
theorem dWO_prepare_124 : decode mWO_prepare.2.1 124 = .ok (.aload_n 0, 1) := by decide +kernel
theorem dWO_prepare_125 : decode mWO_prepare.2.1 125 = .ok (.getfield 21, 3) := by decide +kernel
theorem dWO_prepare_128 : decode mWO_prepare.2.1 128 = .ok (.iload_n 3, 1) := by decide +kernel
theorem dWO_prepare_129 : decode mWO_prepare.2.1 129 = .ok (.aload_n 1, 1) := by decide +kernel
theorem dWO_prepare_130 : decode mWO_prepare.2.1 130 = .ok (.getfield 89, 3) := by decide +kernel
theorem dWO_prepare_133 : decode mWO_prepare.2.1 133 = .ok (.iload 5, 2) := by decide +kernel
theorem dWO_prepare_135 : decode mWO_prepare.2.1 135 = .ok (.iaload, 1) := by decide +kernel
theorem dWO_prepare_136 : decode mWO_prepare.2.1 136 = .ok (.iastore, 1) := by decide +kernel
theorem dWO_prepare_137 : decode mWO_prepare.2.1 137 = .ok (.iinc 3 1, 3) := by decide +kernel
theorem dWO_prepare_140 : decode mWO_prepare.2.1 140 = .ok (.iinc 5 1, 3) := by decide +kernel
theorem dWO_prepare_143 : decode mWO_prepare.2.1 143 = .ok (.goto (-40), 3) := by decide +kernel
theorem dWO_prepare_146 : decode mWO_prepare.2.1 146 = .ok (.iinc 4 1, 3) := by decide +kernel
theorem dWO_prepare_149 : decode mWO_prepare.2.1 149 = .ok (.goto (-66), 3) := by decide +kernel
theorem dWO_prepare_152 : decode mWO_prepare.2.1 152 = .ok (.aload_n 0, 1) := by decide +kernel
theorem dWO_prepare_153 : decode mWO_prepare.2.1 153 = .ok (.getfield 27, 3) := by decide +kernel
theorem dWO_prepare_156 : decode mWO_prepare.2.1 156 = .ok (.aload_n 0, 1) := by decide +kernel
theorem dWO_prepare_157 : decode mWO_prepare.2.1 157 = .ok (.getfield 34, 3) := by decide +kernel
theorem dWO_prepare_160 : decode mWO_prepare.2.1 160 = .ok (.iload_n 3, 1) := by decide +kernel
theorem dWO_prepare_161 : decode mWO_prepare.2.1 161 = .ok (.iastore, 1) := by decide +kernel
theorem dWO_prepare_162 : decode mWO_prepare.2.1 162 = .ok (.return_, 1) := by decide +kernel
theorem dWO_dueAt_0 : decode mWO_dueAt.2.1 0 = .ok (.iload_n 1, 1) := by decide +kernel
theorem dWO_dueAt_1 : decode mWO_dueAt.2.1 1 = .ok (.invokestatic 95, 3) := by decide +kernel
theorem dWO_dueAt_4 : decode mWO_dueAt.2.1 4 = .ok (.iload_n 1, 1) := by decide +kernel
theorem dWO_dueAt_5 : decode mWO_dueAt.2.1 5 = .ok (.invokestatic 100, 3) := by decide +kernel
theorem dWO_dueAt_8 : decode mWO_dueAt.2.1 8 = .ok (.iload_n 1, 1) := by decide +kernel
theorem dWO_dueAt_9 : decode mWO_dueAt.2.1 9 = .ok (.invokestatic 103, 3) := by decide +kernel
theorem dWO_dueAt_12 : decode mWO_dueAt.2.1 12 = .ok (.invokestatic 106, 3) := by decide +kernel
theorem dWO_dueAt_15 : decode mWO_dueAt.2.1 15 = .ok (.invokestatic 106, 3) := by decide +kernel
theorem dWO_dueAt_18 : decode mWO_dueAt.2.1 18 = .ok (.istore_n 2, 1) := by decide +kernel
theorem dWO_dueAt_19 : decode mWO_dueAt.2.1 19 = .ok (.iload_n 1, 1) := by decide +kernel
theorem dWO_dueAt_20 : decode mWO_dueAt.2.1 20 = .ok (.invokestatic 109, 3) := by decide +kernel
theorem dWO_dueAt_23 : decode mWO_dueAt.2.1 23 = .ok (.bipush 9, 2) := by decide +kernel
theorem dWO_dueAt_25 : decode mWO_dueAt.2.1 25 = .ok (.if_icmp .ne 22, 3) := by decide +kernel
theorem dWO_dueAt_28 : decode mWO_dueAt.2.1 28 = .ok (.iload_n 2, 1) := by decide +kernel
theorem dWO_dueAt_29 : decode mWO_dueAt.2.1 29 = .ok (.bipush 10, 2) := by decide +kernel
theorem dWO_dueAt_31 : decode mWO_dueAt.2.1 31 = .ok (.iload_n 1, 1) := by decide +kernel
theorem dWO_dueAt_32 : decode mWO_dueAt.2.1 32 = .ok (.invokestatic 112, 3) := by decide +kernel
theorem dWO_dueAt_35 : decode mWO_dueAt.2.1 35 = .ok (.imul, 1) := by decide +kernel
theorem dWO_dueAt_36 : decode mWO_dueAt.2.1 36 = .ok (.aload_n 0, 1) := by decide +kernel
theorem dWO_dueAt_37 : decode mWO_dueAt.2.1 37 = .ok (.getfield 30, 3) := by decide +kernel
theorem dWO_dueAt_40 : decode mWO_dueAt.2.1 40 = .ok (.iadd, 1) := by decide +kernel
theorem dWO_dueAt_41 : decode mWO_dueAt.2.1 41 = .ok (.iconst 1, 1) := by decide +kernel
theorem dWO_dueAt_42 : decode mWO_dueAt.2.1 42 = .ok (.isub, 1) := by decide +kernel
theorem dWO_dueAt_43 : decode mWO_dueAt.2.1 43 = .ok (.invokestatic 106, 3) := by decide +kernel
theorem dWO_dueAt_46 : decode mWO_dueAt.2.1 46 = .ok (.istore_n 2, 1) := by decide +kernel
theorem dWO_dueAt_47 : decode mWO_dueAt.2.1 47 = .ok (.iload_n 2, 1) := by decide +kernel
theorem dWO_dueAt_48 : decode mWO_dueAt.2.1 48 = .ok (.bipush 10, 2) := by decide +kernel
theorem dWO_dueAt_50 : decode mWO_dueAt.2.1 50 = .ok (.idiv, 1) := by decide +kernel
theorem dWO_dueAt_51 : decode mWO_dueAt.2.1 51 = .ok (.iconst 1, 1) := by decide +kernel
theorem dWO_dueAt_52 : decode mWO_dueAt.2.1 52 = .ok (.isub, 1) := by decide +kernel
theorem dWO_dueAt_53 : decode mWO_dueAt.2.1 53 = .ok (.aload_n 0, 1) := by decide +kernel
theorem dWO_dueAt_54 : decode mWO_dueAt.2.1 54 = .ok (.getfield 30, 3) := by decide +kernel
theorem dWO_dueAt_57 : decode mWO_dueAt.2.1 57 = .ok (.imul, 1) := by decide +kernel
theorem dWO_dueAt_58 : decode mWO_dueAt.2.1 58 = .ok (.iload_n 2, 1) := by decide +kernel
theorem dWO_dueAt_59 : decode mWO_dueAt.2.1 59 = .ok (.bipush 10, 2) := by decide +kernel
theorem dWO_dueAt_61 : decode mWO_dueAt.2.1 61 = .ok (.irem, 1) := by decide +kernel
theorem dWO_dueAt_62 : decode mWO_dueAt.2.1 62 = .ok (.iadd, 1) := by decide +kernel
theorem dWO_dueAt_63 : decode mWO_dueAt.2.1 63 = .ok (.ireturn, 1) := by decide +kernel
theorem dWO_placeFrom_0 : decode mWO_placeFrom.2.1 0 = .ok (.iload_n 1, 1) := by decide +kernel
theorem dWO_placeFrom_1 : decode mWO_placeFrom.2.1 1 = .ok (.aload_n 0, 1) := by decide +kernel
theorem dWO_placeFrom_2 : decode mWO_placeFrom.2.1 2 = .ok (.getfield 34, 3) := by decide +kernel
theorem dWO_placeFrom_5 : decode mWO_placeFrom.2.1 5 = .ok (.if_icmp .lt 9, 3) := by decide +kernel
theorem dWO_placeFrom_8 : decode mWO_placeFrom.2.1 8 = .ok (.aload_n 0, 1) := by decide +kernel
theorem dWO_placeFrom_9 : decode mWO_placeFrom.2.1 9 = .ok (.iload_n 2, 1) := by decide +kernel
theorem dWO_placeFrom_10 : decode mWO_placeFrom.2.1 10 = .ok (.invokevirtual 115, 3) := by decide +kernel
theorem dWO_placeFrom_13 : decode mWO_placeFrom.2.1 13 = .ok (.return_, 1) := by decide +kernel
theorem dWO_placeFrom_14 : decode mWO_placeFrom.2.1 14 = .ok (.iload_n 1, 1) := by decide +kernel
theorem dWO_placeFrom_15 : decode mWO_placeFrom.2.1 15 = .ok (.aload_n 0, 1) := by decide +kernel
theorem dWO_placeFrom_16 : decode mWO_placeFrom.2.1 16 = .ok (.getfield 30, 3) := by decide +kernel
theorem dWO_placeFrom_19 : decode mWO_placeFrom.2.1 19 = .ok (.idiv, 1) := by decide +kernel
theorem dWO_placeFrom_20 : decode mWO_placeFrom.2.1 20 = .ok (.iconst 1, 1) := by decide +kernel
theorem dWO_placeFrom_21 : decode mWO_placeFrom.2.1 21 = .ok (.iadd, 1) := by decide +kernel
theorem dWO_placeFrom_22 : decode mWO_placeFrom.2.1 22 = .ok (.istore_n 3, 1) := by decide +kernel
theorem dWO_placeFrom_23 : decode mWO_placeFrom.2.1 23 = .ok (.bipush 10, 2) := by decide +kernel
theorem dWO_placeFrom_25 : decode mWO_placeFrom.2.1 25 = .ok (.iload_n 3, 1) := by decide +kernel
theorem dWO_placeFrom_26 : decode mWO_placeFrom.2.1 26 = .ok (.imul, 1) := by decide +kernel
theorem dWO_placeFrom_27 : decode mWO_placeFrom.2.1 27 = .ok (.iload_n 1, 1) := by decide +kernel
theorem dWO_placeFrom_28 : decode mWO_placeFrom.2.1 28 = .ok (.aload_n 0, 1) := by decide +kernel
theorem dWO_placeFrom_29 : decode mWO_placeFrom.2.1 29 = .ok (.getfield 30, 3) := by decide +kernel
theorem dWO_placeFrom_32 : decode mWO_placeFrom.2.1 32 = .ok (.irem, 1) := by decide +kernel
theorem dWO_placeFrom_33 : decode mWO_placeFrom.2.1 33 = .ok (.iadd, 1) := by decide +kernel
theorem dWO_placeFrom_34 : decode mWO_placeFrom.2.1 34 = .ok (.istore 4, 2) := by decide +kernel
theorem dWO_placeFrom_36 : decode mWO_placeFrom.2.1 36 = .ok (.iconst 0, 1) := by decide +kernel
theorem dWO_placeFrom_37 : decode mWO_placeFrom.2.1 37 = .ok (.istore 5, 2) := by decide +kernel
theorem dWO_placeFrom_39 : decode mWO_placeFrom.2.1 39 = .ok (.iload 5, 2) := by decide +kernel
theorem dWO_placeFrom_41 : decode mWO_placeFrom.2.1 41 = .ok (.aload_n 0, 1) := by decide +kernel
theorem dWO_placeFrom_42 : decode mWO_placeFrom.2.1 42 = .ok (.getfield 30, 3) := by decide +kernel
theorem dWO_placeFrom_45 : decode mWO_placeFrom.2.1 45 = .ok (.if_icmp .ge 109, 3) := by decide +kernel
theorem dWO_placeFrom_48 : decode mWO_placeFrom.2.1 48 = .ok (.aload_n 0, 1) := by decide +kernel
theorem dWO_placeFrom_49 : decode mWO_placeFrom.2.1 49 = .ok (.getfield 80, 3) := by decide +kernel
theorem dWO_placeFrom_52 : decode mWO_placeFrom.2.1 52 = .ok (.ifCond .ne 102, 3) := by decide +kernel
theorem dWO_placeFrom_55 : decode mWO_placeFrom.2.1 55 = .ok (.aload_n 0, 1) := by decide +kernel
theorem dWO_placeFrom_56 : decode mWO_placeFrom.2.1 56 = .ok (.getfield 18, 3) := by decide +kernel
theorem dWO_placeFrom_59 : decode mWO_placeFrom.2.1 59 = .ok (.iload_n 3, 1) := by decide +kernel
theorem dWO_placeFrom_60 : decode mWO_placeFrom.2.1 60 = .ok (.iaload, 1) := by decide +kernel
theorem dWO_placeFrom_61 : decode mWO_placeFrom.2.1 61 = .ok (.iload 5, 2) := by decide +kernel
theorem dWO_placeFrom_63 : decode mWO_placeFrom.2.1 63 = .ok (.ishr, 1) := by decide +kernel
theorem dWO_placeFrom_64 : decode mWO_placeFrom.2.1 64 = .ok (.iconst 1, 1) := by decide +kernel
theorem dWO_placeFrom_65 : decode mWO_placeFrom.2.1 65 = .ok (.iand, 1) := by decide +kernel
theorem dWO_placeFrom_66 : decode mWO_placeFrom.2.1 66 = .ok (.ifCond .eq 6, 3) := by decide +kernel
theorem dWO_placeFrom_69 : decode mWO_placeFrom.2.1 69 = .ok (.goto 79, 3) := by decide +kernel
theorem dWO_placeFrom_72 : decode mWO_placeFrom.2.1 72 = .ok (.aload_n 0, 1) := by decide +kernel
theorem dWO_placeFrom_73 : decode mWO_placeFrom.2.1 73 = .ok (.getfield 9, 3) := by decide +kernel
theorem dWO_placeFrom_76 : decode mWO_placeFrom.2.1 76 = .ok (.iload 4, 2) := by decide +kernel
theorem dWO_placeFrom_78 : decode mWO_placeFrom.2.1 78 = .ok (.iload 5, 2) := by decide +kernel
theorem dWO_placeFrom_80 : decode mWO_placeFrom.2.1 80 = .ok (.iastore, 1) := by decide +kernel
theorem dWO_placeFrom_81 : decode mWO_placeFrom.2.1 81 = .ok (.aload_n 0, 1) := by decide +kernel
theorem dWO_placeFrom_82 : decode mWO_placeFrom.2.1 82 = .ok (.getfield 15, 3) := by decide +kernel
theorem dWO_placeFrom_85 : decode mWO_placeFrom.2.1 85 = .ok (.bipush 10, 2) := by decide +kernel
theorem dWO_placeFrom_87 : decode mWO_placeFrom.2.1 87 = .ok (.iload_n 3, 1) := by decide +kernel
theorem dWO_placeFrom_88 : decode mWO_placeFrom.2.1 88 = .ok (.imul, 1) := by decide +kernel
theorem dWO_placeFrom_89 : decode mWO_placeFrom.2.1 89 = .ok (.iload 5, 2) := by decide +kernel
theorem dWO_placeFrom_91 : decode mWO_placeFrom.2.1 91 = .ok (.iadd, 1) := by decide +kernel
theorem dWO_placeFrom_92 : decode mWO_placeFrom.2.1 92 = .ok (.iload 4, 2) := by decide +kernel
theorem dWO_placeFrom_94 : decode mWO_placeFrom.2.1 94 = .ok (.bipush 10, 2) := by decide +kernel
theorem dWO_placeFrom_96 : decode mWO_placeFrom.2.1 96 = .ok (.irem, 1) := by decide +kernel
theorem dWO_placeFrom_97 : decode mWO_placeFrom.2.1 97 = .ok (.iastore, 1) := by decide +kernel
theorem dWO_placeFrom_98 : decode mWO_placeFrom.2.1 98 = .ok (.aload_n 0, 1) := by decide +kernel
theorem dWO_placeFrom_99 : decode mWO_placeFrom.2.1 99 = .ok (.iload_n 1, 1) := by decide +kernel
theorem dWO_placeFrom_100 : decode mWO_placeFrom.2.1 100 = .ok (.iload_n 2, 1) := by decide +kernel
theorem dWO_placeFrom_101 : decode mWO_placeFrom.2.1 101 = .ok (.invokevirtual 119, 3) := by decide +kernel
theorem dWO_placeFrom_104 : decode mWO_placeFrom.2.1 104 = .ok (.istore 6, 2) := by decide +kernel
theorem dWO_placeFrom_106 : decode mWO_placeFrom.2.1 106 = .ok (.iload 6, 2) := by decide +kernel
theorem dWO_placeFrom_108 : decode mWO_placeFrom.2.1 108 = .ok (.ifCond .eq 40, 3) := by decide +kernel
theorem dWO_placeFrom_111 : decode mWO_placeFrom.2.1 111 = .ok (.aload_n 0, 1) := by decide +kernel
theorem dWO_placeFrom_112 : decode mWO_placeFrom.2.1 112 = .ok (.getfield 18, 3) := by decide +kernel
theorem dWO_placeFrom_115 : decode mWO_placeFrom.2.1 115 = .ok (.iload_n 3, 1) := by decide +kernel
theorem dWO_placeFrom_116 : decode mWO_placeFrom.2.1 116 = .ok (.dup2, 1) := by decide +kernel
theorem dWO_placeFrom_117 : decode mWO_placeFrom.2.1 117 = .ok (.iaload, 1) := by decide +kernel
theorem dWO_placeFrom_118 : decode mWO_placeFrom.2.1 118 = .ok (.iconst 1, 1) := by decide +kernel
theorem dWO_placeFrom_119 : decode mWO_placeFrom.2.1 119 = .ok (.iload 5, 2) := by decide +kernel
theorem dWO_placeFrom_121 : decode mWO_placeFrom.2.1 121 = .ok (.ishl, 1) := by decide +kernel
theorem dWO_placeFrom_122 : decode mWO_placeFrom.2.1 122 = .ok (.ior, 1) := by decide +kernel
theorem dWO_placeFrom_123 : decode mWO_placeFrom.2.1 123 = .ok (.iastore, 1) := by decide +kernel
theorem dWO_placeFrom_124 : decode mWO_placeFrom.2.1 124 = .ok (.aload_n 0, 1) := by decide +kernel
theorem dWO_placeFrom_125 : decode mWO_placeFrom.2.1 125 = .ok (.iload_n 1, 1) := by decide +kernel
theorem dWO_placeFrom_126 : decode mWO_placeFrom.2.1 126 = .ok (.iconst 1, 1) := by decide +kernel
theorem dWO_placeFrom_127 : decode mWO_placeFrom.2.1 127 = .ok (.iadd, 1) := by decide +kernel
theorem dWO_placeFrom_128 : decode mWO_placeFrom.2.1 128 = .ok (.iload 6, 2) := by decide +kernel
theorem dWO_placeFrom_130 : decode mWO_placeFrom.2.1 130 = .ok (.invokevirtual 44, 3) := by decide +kernel
theorem dWO_placeFrom_133 : decode mWO_placeFrom.2.1 133 = .ok (.aload_n 0, 1) := by decide +kernel
theorem dWO_placeFrom_134 : decode mWO_placeFrom.2.1 134 = .ok (.getfield 18, 3) := by decide +kernel
theorem dWO_placeFrom_137 : decode mWO_placeFrom.2.1 137 = .ok (.iload_n 3, 1) := by decide +kernel
theorem dWO_placeFrom_138 : decode mWO_placeFrom.2.1 138 = .ok (.dup2, 1) := by decide +kernel
theorem dWO_placeFrom_139 : decode mWO_placeFrom.2.1 139 = .ok (.iaload, 1) := by decide +kernel
theorem dWO_placeFrom_140 : decode mWO_placeFrom.2.1 140 = .ok (.iconst 1, 1) := by decide +kernel
theorem dWO_placeFrom_141 : decode mWO_placeFrom.2.1 141 = .ok (.iload 5, 2) := by decide +kernel
theorem dWO_placeFrom_143 : decode mWO_placeFrom.2.1 143 = .ok (.ishl, 1) := by decide +kernel
theorem dWO_placeFrom_144 : decode mWO_placeFrom.2.1 144 = .ok (.iconst (-1), 1) := by decide +kernel
theorem dWO_placeFrom_145 : decode mWO_placeFrom.2.1 145 = .ok (.ixor, 1) := by decide +kernel
theorem dWO_placeFrom_146 : decode mWO_placeFrom.2.1 146 = .ok (.iand, 1) := by decide +kernel
theorem dWO_placeFrom_147 : decode mWO_placeFrom.2.1 147 = .ok (.iastore, 1) := by decide +kernel
theorem dWO_placeFrom_148 : decode mWO_placeFrom.2.1 148 = .ok (.iinc 5 1, 3) := by decide +kernel
theorem dWO_placeFrom_151 : decode mWO_placeFrom.2.1 151 = .ok (.goto (-112), 3) := by decide +kernel
theorem dWO_placeFrom_154 : decode mWO_placeFrom.2.1 154 = .ok (.return_, 1) := by decide +kernel
theorem dWO_take_0 : decode mWO_take.2.1 0 = .ok (.aload_n 0, 1) := by decide +kernel
theorem dWO_take_1 : decode mWO_take.2.1 1 = .ok (.dup, 1) := by decide +kernel
theorem dWO_take_2 : decode mWO_take.2.1 2 = .ok (.getfield 60, 3) := by decide +kernel
theorem dWO_take_5 : decode mWO_take.2.1 5 = .ok (.iconst 1, 1) := by decide +kernel
theorem dWO_take_6 : decode mWO_take.2.1 6 = .ok (.iadd, 1) := by decide +kernel
theorem dWO_take_7 : decode mWO_take.2.1 7 = .ok (.putfield 60, 3) := by decide +kernel
theorem dWO_take_10 : decode mWO_take.2.1 10 = .ok (.aload_n 0, 1) := by decide +kernel
theorem dWO_take_11 : decode mWO_take.2.1 11 = .ok (.dup, 1) := by decide +kernel
theorem dWO_take_12 : decode mWO_take.2.1 12 = .ok (.getfield 48, 3) := by decide +kernel
theorem dWO_take_15 : decode mWO_take.2.1 15 = .ok (.iload_n 1, 1) := by decide +kernel
theorem dWO_take_16 : decode mWO_take.2.1 16 = .ok (.iconst 3, 1) := by decide +kernel
theorem dWO_take_17 : decode mWO_take.2.1 17 = .ok (.iand, 1) := by decide +kernel
theorem dWO_take_18 : decode mWO_take.2.1 18 = .ok (.invokestatic 73, 3) := by decide +kernel
theorem dWO_take_21 : decode mWO_take.2.1 21 = .ok (.iload_n 1, 1) := by decide +kernel
theorem dWO_take_22 : decode mWO_take.2.1 22 = .ok (.iconst 2, 1) := by decide +kernel
theorem dWO_take_23 : decode mWO_take.2.1 23 = .ok (.ishr, 1) := by decide +kernel
theorem dWO_take_24 : decode mWO_take.2.1 24 = .ok (.invokestatic 73, 3) := by decide +kernel
theorem dWO_take_27 : decode mWO_take.2.1 27 = .ok (.imul, 1) := by decide +kernel
theorem dWO_take_28 : decode mWO_take.2.1 28 = .ok (.iadd, 1) := by decide +kernel
theorem dWO_take_29 : decode mWO_take.2.1 29 = .ok (.putfield 48, 3) := by decide +kernel
theorem dWO_take_32 : decode mWO_take.2.1 32 = .ok (.aload_n 0, 1) := by decide +kernel
theorem dWO_take_33 : decode mWO_take.2.1 33 = .ok (.getfield 63, 3) := by decide +kernel
theorem dWO_take_36 : decode mWO_take.2.1 36 = .ok (.bipush 10, 2) := by decide +kernel
theorem dWO_take_38 : decode mWO_take.2.1 38 = .ok (.if_icmp .lt 26, 3) := by decide +kernel
theorem dWO_take_41 : decode mWO_take.2.1 41 = .ok (.aload_n 0, 1) := by decide +kernel
theorem dWO_take_42 : decode mWO_take.2.1 42 = .ok (.dup, 1) := by decide +kernel
theorem dWO_take_43 : decode mWO_take.2.1 43 = .ok (.getfield 66, 3) := by decide +kernel
theorem dWO_take_46 : decode mWO_take.2.1 46 = .ok (.iconst 1, 1) := by decide +kernel
theorem dWO_take_47 : decode mWO_take.2.1 47 = .ok (.aload_n 0, 1) := by decide +kernel
theorem dWO_take_48 : decode mWO_take.2.1 48 = .ok (.getfield 9, 3) := by decide +kernel
theorem dWO_take_51 : decode mWO_take.2.1 51 = .ok (.aload_n 0, 1) := by decide +kernel
theorem dWO_take_52 : decode mWO_take.2.1 52 = .ok (.getfield 63, 3) := by decide +kernel
theorem dWO_take_55 : decode mWO_take.2.1 55 = .ok (.iaload, 1) := by decide +kernel
theorem dWO_take_56 : decode mWO_take.2.1 56 = .ok (.ishl, 1) := by decide +kernel
theorem dWO_take_57 : decode mWO_take.2.1 57 = .ok (.ior, 1) := by decide +kernel
theorem dWO_take_58 : decode mWO_take.2.1 58 = .ok (.putfield 66, 3) := by decide +kernel
theorem dWO_take_61 : decode mWO_take.2.1 61 = .ok (.goto 29, 3) := by decide +kernel
theorem dWO_take_64 : decode mWO_take.2.1 64 = .ok (.aload_n 0, 1) := by decide +kernel
theorem dWO_take_65 : decode mWO_take.2.1 65 = .ok (.getfield 63, 3) := by decide +kernel
theorem dWO_take_68 : decode mWO_take.2.1 68 = .ok (.ifCond .lt 22, 3) := by decide +kernel
theorem dWO_take_71 : decode mWO_take.2.1 71 = .ok (.aload_n 0, 1) := by decide +kernel
theorem dWO_take_72 : decode mWO_take.2.1 72 = .ok (.dup, 1) := by decide +kernel
theorem dWO_take_73 : decode mWO_take.2.1 73 = .ok (.getfield 66, 3) := by decide +kernel
theorem dWO_take_76 : decode mWO_take.2.1 76 = .ok (.iload_n 1, 1) := by decide +kernel
theorem dWO_take_77 : decode mWO_take.2.1 77 = .ok (.iconst 2, 1) := by decide +kernel
theorem dWO_take_78 : decode mWO_take.2.1 78 = .ok (.aload_n 0, 1) := by decide +kernel
theorem dWO_take_79 : decode mWO_take.2.1 79 = .ok (.getfield 63, 3) := by decide +kernel
theorem dWO_take_82 : decode mWO_take.2.1 82 = .ok (.imul, 1) := by decide +kernel
theorem dWO_take_83 : decode mWO_take.2.1 83 = .ok (.ishr, 1) := by decide +kernel
theorem dWO_take_84 : decode mWO_take.2.1 84 = .ok (.iconst 3, 1) := by decide +kernel
theorem dWO_take_85 : decode mWO_take.2.1 85 = .ok (.iand, 1) := by decide +kernel
theorem dWO_take_86 : decode mWO_take.2.1 86 = .ok (.ior, 1) := by decide +kernel
theorem dWO_take_87 : decode mWO_take.2.1 87 = .ok (.putfield 66, 3) := by decide +kernel
theorem dWO_take_90 : decode mWO_take.2.1 90 = .ok (.aload_n 0, 1) := by decide +kernel
theorem dWO_take_91 : decode mWO_take.2.1 91 = .ok (.aload_n 0, 1) := by decide +kernel
theorem dWO_take_92 : decode mWO_take.2.1 92 = .ok (.getfield 48, 3) := by decide +kernel
theorem dWO_take_95 : decode mWO_take.2.1 95 = .ok (.aload_n 0, 1) := by decide +kernel
theorem dWO_take_96 : decode mWO_take.2.1 96 = .ok (.getfield 41, 3) := by decide +kernel
theorem dWO_take_99 : decode mWO_take.2.1 99 = .ok (.if_icmp .ge 24, 3) := by decide +kernel
theorem dWO_take_102 : decode mWO_take.2.1 102 = .ok (.aload_n 0, 1) := by decide +kernel
theorem dWO_take_103 : decode mWO_take.2.1 103 = .ok (.getfield 60, 3) := by decide +kernel
theorem dWO_take_106 : decode mWO_take.2.1 106 = .ok (.aload_n 0, 1) := by decide +kernel
theorem dWO_take_107 : decode mWO_take.2.1 107 = .ok (.getfield 57, 3) := by decide +kernel
theorem dWO_take_110 : decode mWO_take.2.1 110 = .ok (.if_icmp .ge 13, 3) := by decide +kernel
theorem dWO_take_113 : decode mWO_take.2.1 113 = .ok (.aload_n 0, 1) := by decide +kernel
theorem dWO_take_114 : decode mWO_take.2.1 114 = .ok (.getfield 66, 3) := by decide +kernel
theorem dWO_take_117 : decode mWO_take.2.1 117 = .ok (.invokestatic 69, 3) := by decide +kernel
theorem dWO_take_120 : decode mWO_take.2.1 120 = .ok (.ifCond .eq 7, 3) := by decide +kernel
theorem dWO_take_123 : decode mWO_take.2.1 123 = .ok (.iconst 1, 1) := by decide +kernel
theorem dWO_take_124 : decode mWO_take.2.1 124 = .ok (.goto 4, 3) := by decide +kernel
theorem dWO_take_127 : decode mWO_take.2.1 127 = .ok (.iconst 0, 1) := by decide +kernel
theorem dWO_take_128 : decode mWO_take.2.1 128 = .ok (.putfield 80, 3) := by decide +kernel
theorem dWO_take_131 : decode mWO_take.2.1 131 = .ok (.return_, 1) := by decide +kernel
theorem dWO_isMany_0 : decode mWO_isMany.2.1 0 = .ok (.iload_n 0, 1) := by decide +kernel
theorem dWO_isMany_1 : decode mWO_isMany.2.1 1 = .ok (.iload_n 0, 1) := by decide +kernel
theorem dWO_isMany_2 : decode mWO_isMany.2.1 2 = .ok (.iconst 1, 1) := by decide +kernel
theorem dWO_isMany_3 : decode mWO_isMany.2.1 3 = .ok (.isub, 1) := by decide +kernel
theorem dWO_isMany_4 : decode mWO_isMany.2.1 4 = .ok (.iand, 1) := by decide +kernel
theorem dWO_isMany_5 : decode mWO_isMany.2.1 5 = .ok (.ifCond .eq 7, 3) := by decide +kernel
theorem dWO_isMany_8 : decode mWO_isMany.2.1 8 = .ok (.iconst 1, 1) := by decide +kernel
theorem dWO_isMany_9 : decode mWO_isMany.2.1 9 = .ok (.goto 4, 3) := by decide +kernel
theorem dWO_isMany_12 : decode mWO_isMany.2.1 12 = .ok (.iconst 0, 1) := by decide +kernel
theorem dWO_isMany_13 : decode mWO_isMany.2.1 13 = .ok (.ireturn, 1) := by decide +kernel
theorem dWO_heard_0 : decode mWO_heard.2.1 0 = .ok (.iload_n 2, 1) := by decide +kernel
theorem dWO_heard_1 : decode mWO_heard.2.1 1 = .ok (.istore_n 3, 1) := by decide +kernel
theorem dWO_heard_2 : decode mWO_heard.2.1 2 = .ok (.aload_n 0, 1) := by decide +kernel
theorem dWO_heard_3 : decode mWO_heard.2.1 3 = .ok (.getfield 27, 3) := by decide +kernel
theorem dWO_heard_6 : decode mWO_heard.2.1 6 = .ok (.iload_n 1, 1) := by decide +kernel
theorem dWO_heard_7 : decode mWO_heard.2.1 7 = .ok (.iaload, 1) := by decide +kernel
theorem dWO_heard_8 : decode mWO_heard.2.1 8 = .ok (.istore 4, 2) := by decide +kernel
theorem dWO_heard_10 : decode mWO_heard.2.1 10 = .ok (.iload 4, 2) := by decide +kernel
theorem dWO_heard_12 : decode mWO_heard.2.1 12 = .ok (.aload_n 0, 1) := by decide +kernel
theorem dWO_heard_13 : decode mWO_heard.2.1 13 = .ok (.getfield 27, 3) := by decide +kernel
theorem dWO_heard_16 : decode mWO_heard.2.1 16 = .ok (.iload_n 1, 1) := by decide +kernel
theorem dWO_heard_17 : decode mWO_heard.2.1 17 = .ok (.iconst 1, 1) := by decide +kernel
theorem dWO_heard_18 : decode mWO_heard.2.1 18 = .ok (.iadd, 1) := by decide +kernel
theorem dWO_heard_19 : decode mWO_heard.2.1 19 = .ok (.iaload, 1) := by decide +kernel
theorem dWO_heard_20 : decode mWO_heard.2.1 20 = .ok (.if_icmp .ge 169, 3) := by decide +kernel
theorem dWO_heard_23 : decode mWO_heard.2.1 23 = .ok (.aload_n 0, 1) := by decide +kernel
theorem dWO_heard_24 : decode mWO_heard.2.1 24 = .ok (.getfield 21, 3) := by decide +kernel
theorem dWO_heard_27 : decode mWO_heard.2.1 27 = .ok (.iload 4, 2) := by decide +kernel
theorem dWO_heard_29 : decode mWO_heard.2.1 29 = .ok (.iaload, 1) := by decide +kernel
theorem dWO_heard_30 : decode mWO_heard.2.1 30 = .ok (.istore 5, 2) := by decide +kernel
theorem dWO_heard_32 : decode mWO_heard.2.1 32 = .ok (.iload 5, 2) := by decide +kernel
theorem dWO_heard_34 : decode mWO_heard.2.1 34 = .ok (.invokestatic 109, 3) := by decide +kernel
theorem dWO_heard_37 : decode mWO_heard.2.1 37 = .ok (.istore 6, 2) := by decide +kernel
theorem dWO_heard_39 : decode mWO_heard.2.1 39 = .ok (.iload 5, 2) := by decide +kernel
theorem dWO_heard_41 : decode mWO_heard.2.1 41 = .ok (.invokestatic 112, 3) := by decide +kernel
theorem dWO_heard_44 : decode mWO_heard.2.1 44 = .ok (.istore 7, 2) := by decide +kernel
theorem dWO_heard_46 : decode mWO_heard.2.1 46 = .ok (.aload_n 0, 1) := by decide +kernel
theorem dWO_heard_47 : decode mWO_heard.2.1 47 = .ok (.getfield 9, 3) := by decide +kernel
theorem dWO_heard_50 : decode mWO_heard.2.1 50 = .ok (.iload 5, 2) := by decide +kernel
theorem dWO_heard_52 : decode mWO_heard.2.1 52 = .ok (.invokestatic 95, 3) := by decide +kernel
theorem dWO_heard_55 : decode mWO_heard.2.1 55 = .ok (.iaload, 1) := by decide +kernel
theorem dWO_heard_56 : decode mWO_heard.2.1 56 = .ok (.istore 8, 2) := by decide +kernel
theorem dWO_heard_58 : decode mWO_heard.2.1 58 = .ok (.aload_n 0, 1) := by decide +kernel
theorem dWO_heard_59 : decode mWO_heard.2.1 59 = .ok (.getfield 9, 3) := by decide +kernel
theorem dWO_heard_62 : decode mWO_heard.2.1 62 = .ok (.iload 5, 2) := by decide +kernel
theorem dWO_heard_64 : decode mWO_heard.2.1 64 = .ok (.invokestatic 100, 3) := by decide +kernel
theorem dWO_heard_67 : decode mWO_heard.2.1 67 = .ok (.iaload, 1) := by decide +kernel
theorem dWO_heard_68 : decode mWO_heard.2.1 68 = .ok (.istore 9, 2) := by decide +kernel
theorem dWO_heard_70 : decode mWO_heard.2.1 70 = .ok (.iload 6, 2) := by decide +kernel
theorem dWO_heard_72 : decode mWO_heard.2.1 72 = .ok (.bipush 9, 2) := by decide +kernel
theorem dWO_heard_74 : decode mWO_heard.2.1 74 = .ok (.if_icmp .ne 33, 3) := by decide +kernel
theorem dWO_heard_77 : decode mWO_heard.2.1 77 = .ok (.aload_n 0, 1) := by decide +kernel
theorem dWO_heard_78 : decode mWO_heard.2.1 78 = .ok (.getfield 15, 3) := by decide +kernel
theorem dWO_heard_81 : decode mWO_heard.2.1 81 = .ok (.bipush 10, 2) := by decide +kernel
theorem dWO_heard_83 : decode mWO_heard.2.1 83 = .ok (.iload 7, 2) := by decide +kernel
theorem dWO_heard_85 : decode mWO_heard.2.1 85 = .ok (.imul, 1) := by decide +kernel
theorem dWO_heard_86 : decode mWO_heard.2.1 86 = .ok (.iload 8, 2) := by decide +kernel
theorem dWO_heard_88 : decode mWO_heard.2.1 88 = .ok (.iadd, 1) := by decide +kernel
theorem dWO_heard_89 : decode mWO_heard.2.1 89 = .ok (.iaload, 1) := by decide +kernel
theorem dWO_heard_90 : decode mWO_heard.2.1 90 = .ok (.istore 8, 2) := by decide +kernel
theorem dWO_heard_92 : decode mWO_heard.2.1 92 = .ok (.aload_n 0, 1) := by decide +kernel
theorem dWO_heard_93 : decode mWO_heard.2.1 93 = .ok (.getfield 15, 3) := by decide +kernel
theorem dWO_heard_96 : decode mWO_heard.2.1 96 = .ok (.bipush 10, 2) := by decide +kernel
theorem dWO_heard_98 : decode mWO_heard.2.1 98 = .ok (.iload 7, 2) := by decide +kernel
theorem dWO_heard_100 : decode mWO_heard.2.1 100 = .ok (.imul, 1) := by decide +kernel
theorem dWO_heard_101 : decode mWO_heard.2.1 101 = .ok (.iload 9, 2) := by decide +kernel
theorem dWO_heard_103 : decode mWO_heard.2.1 103 = .ok (.iadd, 1) := by decide +kernel
theorem dWO_heard_104 : decode mWO_heard.2.1 104 = .ok (.iaload, 1) := by decide +kernel
theorem dWO_heard_105 : decode mWO_heard.2.1 105 = .ok (.istore 9, 2) := by decide +kernel
theorem dWO_heard_107 : decode mWO_heard.2.1 107 = .ok (.iload 6, 2) := by decide +kernel
theorem dWO_heard_109 : decode mWO_heard.2.1 109 = .ok (.iload 7, 2) := by decide +kernel
theorem dWO_heard_111 : decode mWO_heard.2.1 111 = .ok (.iload 8, 2) := by decide +kernel
theorem dWO_heard_113 : decode mWO_heard.2.1 113 = .ok (.iload 9, 2) := by decide +kernel
theorem dWO_heard_115 : decode mWO_heard.2.1 115 = .ok (.aload_n 0, 1) := by decide +kernel
theorem dWO_heard_116 : decode mWO_heard.2.1 116 = .ok (.getfield 9, 3) := by decide +kernel
theorem dWO_heard_119 : decode mWO_heard.2.1 119 = .ok (.iload 5, 2) := by decide +kernel
theorem dWO_heard_121 : decode mWO_heard.2.1 121 = .ok (.invokestatic 103, 3) := by decide +kernel
theorem dWO_heard_124 : decode mWO_heard.2.1 124 = .ok (.iaload, 1) := by decide +kernel
theorem dWO_heard_125 : decode mWO_heard.2.1 125 = .ok (.invokestatic 122, 3) := by decide +kernel
theorem dWO_heard_128 : decode mWO_heard.2.1 128 = .ok (.istore 10, 2) := by decide +kernel
theorem dWO_heard_130 : decode mWO_heard.2.1 130 = .ok (.iload 5, 2) := by decide +kernel
theorem dWO_heard_132 : decode mWO_heard.2.1 132 = .ok (.invokestatic 126, 3) := by decide +kernel
theorem dWO_heard_135 : decode mWO_heard.2.1 135 = .ok (.istore 11, 2) := by decide +kernel
theorem dWO_heard_137 : decode mWO_heard.2.1 137 = .ok (.iload 11, 2) := by decide +kernel
theorem dWO_heard_139 : decode mWO_heard.2.1 139 = .ok (.iconst (-1), 1) := by decide +kernel
theorem dWO_heard_140 : decode mWO_heard.2.1 140 = .ok (.if_icmp .ne 10, 3) := by decide +kernel
theorem dWO_heard_143 : decode mWO_heard.2.1 143 = .ok (.iload 10, 2) := by decide +kernel
theorem dWO_heard_145 : decode mWO_heard.2.1 145 = .ok (.ifCond .ne 38, 3) := by decide +kernel
theorem dWO_heard_148 : decode mWO_heard.2.1 148 = .ok (.iconst 0, 1) := by decide +kernel
theorem dWO_heard_149 : decode mWO_heard.2.1 149 = .ok (.ireturn, 1) := by decide +kernel
theorem dWO_heard_150 : decode mWO_heard.2.1 150 = .ok (.iload_n 3, 1) := by decide +kernel
theorem dWO_heard_151 : decode mWO_heard.2.1 151 = .ok (.iload 10, 2) := by decide +kernel
theorem dWO_heard_153 : decode mWO_heard.2.1 153 = .ok (.ifCond .eq 7, 3) := by decide +kernel
theorem dWO_heard_156 : decode mWO_heard.2.1 156 = .ok (.iconst 1, 1) := by decide +kernel
theorem dWO_heard_157 : decode mWO_heard.2.1 157 = .ok (.goto 4, 3) := by decide +kernel
theorem dWO_heard_160 : decode mWO_heard.2.1 160 = .ok (.iconst 2, 1) := by decide +kernel
theorem dWO_heard_161 : decode mWO_heard.2.1 161 = .ok (.iconst 2, 1) := by decide +kernel
theorem dWO_heard_162 : decode mWO_heard.2.1 162 = .ok (.iload 11, 2) := by decide +kernel
theorem dWO_heard_164 : decode mWO_heard.2.1 164 = .ok (.imul, 1) := by decide +kernel
theorem dWO_heard_165 : decode mWO_heard.2.1 165 = .ok (.ishl, 1) := by decide +kernel
theorem dWO_heard_166 : decode mWO_heard.2.1 166 = .ok (.iconst (-1), 1) := by decide +kernel
theorem dWO_heard_167 : decode mWO_heard.2.1 167 = .ok (.ixor, 1) := by decide +kernel
theorem dWO_heard_168 : decode mWO_heard.2.1 168 = .ok (.iand, 1) := by decide +kernel
theorem dWO_heard_169 : decode mWO_heard.2.1 169 = .ok (.istore_n 3, 1) := by decide +kernel
theorem dWO_heard_170 : decode mWO_heard.2.1 170 = .ok (.iload_n 3, 1) := by decide +kernel
theorem dWO_heard_171 : decode mWO_heard.2.1 171 = .ok (.iconst 2, 1) := by decide +kernel
theorem dWO_heard_172 : decode mWO_heard.2.1 172 = .ok (.iload 11, 2) := by decide +kernel
theorem dWO_heard_174 : decode mWO_heard.2.1 174 = .ok (.imul, 1) := by decide +kernel
theorem dWO_heard_175 : decode mWO_heard.2.1 175 = .ok (.ishr, 1) := by decide +kernel
theorem dWO_heard_176 : decode mWO_heard.2.1 176 = .ok (.iconst 3, 1) := by decide +kernel
theorem dWO_heard_177 : decode mWO_heard.2.1 177 = .ok (.iand, 1) := by decide +kernel
theorem dWO_heard_178 : decode mWO_heard.2.1 178 = .ok (.ifCond .ne 5, 3) := by decide +kernel
theorem dWO_heard_181 : decode mWO_heard.2.1 181 = .ok (.iconst 0, 1) := by decide +kernel
theorem dWO_heard_182 : decode mWO_heard.2.1 182 = .ok (.ireturn, 1) := by decide +kernel
theorem dWO_heard_183 : decode mWO_heard.2.1 183 = .ok (.iinc 4 1, 3) := by decide +kernel
theorem dWO_heard_186 : decode mWO_heard.2.1 186 = .ok (.goto (-176), 3) := by decide +kernel
theorem dWO_heard_189 : decode mWO_heard.2.1 189 = .ok (.iload_n 3, 1) := by decide +kernel
theorem dWO_heard_190 : decode mWO_heard.2.1 190 = .ok (.ireturn, 1) := by decide +kernel
theorem dWO_number_0 : decode mWO_number.2.1 0 = .ok (.iload_n 2, 1) := by decide +kernel
theorem dWO_number_1 : decode mWO_number.2.1 1 = .ok (.ifCond .gt 5, 3) := by decide +kernel
theorem dWO_number_4 : decode mWO_number.2.1 4 = .ok (.iconst 0, 1) := by decide +kernel
theorem dWO_number_5 : decode mWO_number.2.1 5 = .ok (.ireturn, 1) := by decide +kernel
theorem dWO_number_6 : decode mWO_number.2.1 6 = .ok (.aload_n 0, 1) := by decide +kernel
theorem dWO_number_7 : decode mWO_number.2.1 7 = .ok (.aload_n 1, 1) := by decide +kernel
theorem dWO_number_8 : decode mWO_number.2.1 8 = .ok (.iconst (-1), 1) := by decide +kernel
theorem dWO_number_9 : decode mWO_number.2.1 9 = .ok (.invokevirtual 37, 3) := by decide +kernel
theorem dWO_number_12 : decode mWO_number.2.1 12 = .ok (.aload_n 0, 1) := by decide +kernel
theorem dWO_number_13 : decode mWO_number.2.1 13 = .ok (.iload_n 2, 1) := by decide +kernel
theorem dWO_number_14 : decode mWO_number.2.1 14 = .ok (.putfield 41, 3) := by decide +kernel
theorem dWO_number_17 : decode mWO_number.2.1 17 = .ok (.aload_n 0, 1) := by decide +kernel
theorem dWO_number_18 : decode mWO_number.2.1 18 = .ok (.iconst 0, 1) := by decide +kernel
theorem dWO_number_19 : decode mWO_number.2.1 19 = .ok (.bipush 15, 2) := by decide +kernel
theorem dWO_number_21 : decode mWO_number.2.1 21 = .ok (.invokevirtual 44, 3) := by decide +kernel
theorem dWO_number_24 : decode mWO_number.2.1 24 = .ok (.aload_n 0, 1) := by decide +kernel
theorem dWO_number_25 : decode mWO_number.2.1 25 = .ok (.getfield 48, 3) := by decide +kernel
theorem dWO_number_28 : decode mWO_number.2.1 28 = .ok (.iload_n 2, 1) := by decide +kernel
theorem dWO_number_29 : decode mWO_number.2.1 29 = .ok (.invokestatic 51, 3) := by decide +kernel
theorem dWO_number_32 : decode mWO_number.2.1 32 = .ok (.ireturn, 1) := by decide +kernel
theorem dWO_differ_0 : decode mWO_differ.2.1 0 = .ok (.aload_n 0, 1) := by decide +kernel
theorem dWO_differ_1 : decode mWO_differ.2.1 1 = .ok (.aload_n 1, 1) := by decide +kernel
theorem dWO_differ_2 : decode mWO_differ.2.1 2 = .ok (.iload_n 2, 1) := by decide +kernel
theorem dWO_differ_3 : decode mWO_differ.2.1 3 = .ok (.invokevirtual 37, 3) := by decide +kernel
theorem dWO_differ_6 : decode mWO_differ.2.1 6 = .ok (.aload_n 0, 1) := by decide +kernel
theorem dWO_differ_7 : decode mWO_differ.2.1 7 = .ok (.iconst 2, 1) := by decide +kernel
theorem dWO_differ_8 : decode mWO_differ.2.1 8 = .ok (.putfield 57, 3) := by decide +kernel
theorem dWO_differ_11 : decode mWO_differ.2.1 11 = .ok (.aload_n 0, 1) := by decide +kernel
theorem dWO_differ_12 : decode mWO_differ.2.1 12 = .ok (.iconst 0, 1) := by decide +kernel
theorem dWO_differ_13 : decode mWO_differ.2.1 13 = .ok (.bipush 15, 2) := by decide +kernel
theorem dWO_differ_15 : decode mWO_differ.2.1 15 = .ok (.invokevirtual 44, 3) := by decide +kernel
theorem dWO_differ_18 : decode mWO_differ.2.1 18 = .ok (.aload_n 0, 1) := by decide +kernel
theorem dWO_differ_19 : decode mWO_differ.2.1 19 = .ok (.getfield 60, 3) := by decide +kernel
theorem dWO_differ_22 : decode mWO_differ.2.1 22 = .ok (.iconst 2, 1) := by decide +kernel
theorem dWO_differ_23 : decode mWO_differ.2.1 23 = .ok (.if_icmp .lt 7, 3) := by decide +kernel
theorem dWO_differ_26 : decode mWO_differ.2.1 26 = .ok (.iconst 1, 1) := by decide +kernel
theorem dWO_differ_27 : decode mWO_differ.2.1 27 = .ok (.goto 4, 3) := by decide +kernel
theorem dWO_differ_30 : decode mWO_differ.2.1 30 = .ok (.iconst 0, 1) := by decide +kernel
theorem dWO_differ_31 : decode mWO_differ.2.1 31 = .ok (.ireturn, 1) := by decide +kernel
