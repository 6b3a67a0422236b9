theorem dMA_init_0 : decode mMA_init.2.1 0 = .ok (.aload_n 0, 1) := by decide +kernel
theorem dMA_init_1 : decode mMA_init.2.1 1 = .ok (.invokespecial 3, 3) := by decide +kernel
theorem dMA_init_4 : decode mMA_init.2.1 4 = .ok (.aload_n 0, 1) := by decide +kernel
theorem dMA_init_5 : decode mMA_init.2.1 5 = .ok (.bipush 40, 2) := by decide +kernel
theorem dMA_init_7 : decode mMA_init.2.1 7 = .ok (.newarray .int, 2) := by decide +kernel
theorem dMA_init_9 : decode mMA_init.2.1 9 = .ok (.putfield 9, 3) := by decide +kernel
theorem dMA_init_12 : decode mMA_init.2.1 12 = .ok (.aload_n 0, 1) := by decide +kernel
theorem dMA_init_13 : decode mMA_init.2.1 13 = .ok (.sipush 320, 3) := by decide +kernel
theorem dMA_init_16 : decode mMA_init.2.1 16 = .ok (.newarray .int, 2) := by decide +kernel
theorem dMA_init_18 : decode mMA_init.2.1 18 = .ok (.putfield 15, 3) := by decide +kernel
theorem dMA_init_21 : decode mMA_init.2.1 21 = .ok (.aload_n 0, 1) := by decide +kernel
theorem dMA_init_22 : decode mMA_init.2.1 22 = .ok (.new 18, 3) := by decide +kernel
theorem dMA_init_25 : decode mMA_init.2.1 25 = .ok (.dup, 1) := by decide +kernel
theorem dMA_init_26 : decode mMA_init.2.1 26 = .ok (.invokespecial 20, 3) := by decide +kernel
theorem dMA_init_29 : decode mMA_init.2.1 29 = .ok (.putfield 21, 3) := by decide +kernel
theorem dMA_init_32 : decode mMA_init.2.1 32 = .ok (.aload_n 0, 1) := by decide +kernel
theorem dMA_init_33 : decode mMA_init.2.1 33 = .ok (.iload_n 1, 1) := by decide +kernel
theorem dMA_init_34 : decode mMA_init.2.1 34 = .ok (.putfield 25, 3) := by decide +kernel
theorem dMA_init_37 : decode mMA_init.2.1 37 = .ok (.aload_n 0, 1) := by decide +kernel
theorem dMA_init_38 : decode mMA_init.2.1 38 = .ok (.iload_n 1, 1) := by decide +kernel
theorem dMA_init_39 : decode mMA_init.2.1 39 = .ok (.iload_n 2, 1) := by decide +kernel
theorem dMA_init_40 : decode mMA_init.2.1 40 = .ok (.imul, 1) := by decide +kernel
theorem dMA_init_41 : decode mMA_init.2.1 41 = .ok (.putfield 29, 3) := by decide +kernel
theorem dMA_init_44 : decode mMA_init.2.1 44 = .ok (.return_, 1) := by decide +kernel
theorem dMA_find_0 : decode mMA_find.2.1 0 = .ok (.aload_n 0, 1) := by decide +kernel
theorem dMA_find_1 : decode mMA_find.2.1 1 = .ok (.iload_n 1, 1) := by decide +kernel
theorem dMA_find_2 : decode mMA_find.2.1 2 = .ok (.i2l, 1) := by decide +kernel
theorem dMA_find_3 : decode mMA_find.2.1 3 = .ok (.putfield 32, 3) := by decide +kernel
theorem dMA_find_6 : decode mMA_find.2.1 6 = .ok (.iconst 1, 1) := by decide +kernel
theorem dMA_find_7 : decode mMA_find.2.1 7 = .ok (.istore 5, 2) := by decide +kernel
theorem dMA_find_9 : decode mMA_find.2.1 9 = .ok (.iload 5, 2) := by decide +kernel
theorem dMA_find_11 : decode mMA_find.2.1 11 = .ok (.iconst 4, 1) := by decide +kernel
theorem dMA_find_12 : decode mMA_find.2.1 12 = .ok (.if_icmp .gt 106, 3) := by decide +kernel
theorem dMA_find_15 : decode mMA_find.2.1 15 = .ok (.aload_n 0, 1) := by decide +kernel
theorem dMA_find_16 : decode mMA_find.2.1 16 = .ok (.invokevirtual 36, 3) := by decide +kernel
theorem dMA_find_19 : decode mMA_find.2.1 19 = .ok (.aload_n 0, 1) := by decide +kernel
theorem dMA_find_20 : decode mMA_find.2.1 20 = .ok (.invokevirtual 39, 3) := by decide +kernel
theorem dMA_find_23 : decode mMA_find.2.1 23 = .ok (.aload_n 0, 1) := by decide +kernel
theorem dMA_find_24 : decode mMA_find.2.1 24 = .ok (.invokevirtual 42, 3) := by decide +kernel
theorem dMA_find_27 : decode mMA_find.2.1 27 = .ok (.aload_n 0, 1) := by decide +kernel
theorem dMA_find_28 : decode mMA_find.2.1 28 = .ok (.getfield 21, 3) := by decide +kernel
theorem dMA_find_31 : decode mMA_find.2.1 31 = .ok (.iconst 0, 1) := by decide +kernel
theorem dMA_find_32 : decode mMA_find.2.1 32 = .ok (.putfield 45, 3) := by decide +kernel
theorem dMA_find_35 : decode mMA_find.2.1 35 = .ok (.iconst 0, 1) := by decide +kernel
theorem dMA_find_36 : decode mMA_find.2.1 36 = .ok (.istore 6, 2) := by decide +kernel
theorem dMA_find_38 : decode mMA_find.2.1 38 = .ok (.iload 6, 2) := by decide +kernel
theorem dMA_find_40 : decode mMA_find.2.1 40 = .ok (.aload_n 0, 1) := by decide +kernel
theorem dMA_find_41 : decode mMA_find.2.1 41 = .ok (.getfield 48, 3) := by decide +kernel
theorem dMA_find_44 : decode mMA_find.2.1 44 = .ok (.if_icmp .ge 30, 3) := by decide +kernel
theorem dMA_find_47 : decode mMA_find.2.1 47 = .ok (.iload 6, 2) := by decide +kernel
theorem dMA_find_49 : decode mMA_find.2.1 49 = .ok (.bipush 24, 2) := by decide +kernel
theorem dMA_find_51 : decode mMA_find.2.1 51 = .ok (.if_icmp .ge 23, 3) := by decide +kernel
theorem dMA_find_54 : decode mMA_find.2.1 54 = .ok (.aload_n 0, 1) := by decide +kernel
theorem dMA_find_55 : decode mMA_find.2.1 55 = .ok (.getfield 21, 3) := by decide +kernel
theorem dMA_find_58 : decode mMA_find.2.1 58 = .ok (.aload_n 0, 1) := by decide +kernel
theorem dMA_find_59 : decode mMA_find.2.1 59 = .ok (.getfield 15, 3) := by decide +kernel
theorem dMA_find_62 : decode mMA_find.2.1 62 = .ok (.iload 6, 2) := by decide +kernel
theorem dMA_find_64 : decode mMA_find.2.1 64 = .ok (.iaload, 1) := by decide +kernel
theorem dMA_find_65 : decode mMA_find.2.1 65 = .ok (.invokevirtual 51, 3) := by decide +kernel
theorem dMA_find_68 : decode mMA_find.2.1 68 = .ok (.iinc 6 1, 3) := by decide +kernel
theorem dMA_find_71 : decode mMA_find.2.1 71 = .ok (.goto (-33), 3) := by decide +kernel
theorem dMA_find_74 : decode mMA_find.2.1 74 = .ok (.aload_n 3, 1) := by decide +kernel
theorem dMA_find_75 : decode mMA_find.2.1 75 = .ok (.aload_n 0, 1) := by decide +kernel
theorem dMA_find_76 : decode mMA_find.2.1 76 = .ok (.getfield 21, 3) := by decide +kernel
theorem dMA_find_79 : decode mMA_find.2.1 79 = .ok (.iconst (-1), 1) := by decide +kernel
theorem dMA_find_80 : decode mMA_find.2.1 80 = .ok (.invokevirtual 55, 3) := by decide +kernel
theorem dMA_find_83 : decode mMA_find.2.1 83 = .ok (.ifCond .ne 8, 3) := by decide +kernel
theorem dMA_find_86 : decode mMA_find.2.1 86 = .ok (.aload_n 0, 1) := by decide +kernel
theorem dMA_find_87 : decode mMA_find.2.1 87 = .ok (.aload_n 3, 1) := by decide +kernel
theorem dMA_find_88 : decode mMA_find.2.1 88 = .ok (.invokevirtual 61, 3) := by decide +kernel
theorem dMA_find_91 : decode mMA_find.2.1 91 = .ok (.aload 4, 2) := by decide +kernel
theorem dMA_find_93 : decode mMA_find.2.1 93 = .ok (.aload_n 0, 1) := by decide +kernel
theorem dMA_find_94 : decode mMA_find.2.1 94 = .ok (.getfield 21, 3) := by decide +kernel
theorem dMA_find_97 : decode mMA_find.2.1 97 = .ok (.invokevirtual 65, 3) := by decide +kernel
theorem dMA_find_100 : decode mMA_find.2.1 100 = .ok (.aload 4, 2) := by decide +kernel
theorem dMA_find_102 : decode mMA_find.2.1 102 = .ok (.getfield 71, 3) := by decide +kernel
theorem dMA_find_105 : decode mMA_find.2.1 105 = .ok (.iload_n 2, 1) := by decide +kernel
theorem dMA_find_106 : decode mMA_find.2.1 106 = .ok (.if_icmp .ne 6, 3) := by decide +kernel
theorem dMA_find_109 : decode mMA_find.2.1 109 = .ok (.iload 5, 2) := by decide +kernel
theorem dMA_find_111 : decode mMA_find.2.1 111 = .ok (.ireturn, 1) := by decide +kernel
theorem dMA_find_112 : decode mMA_find.2.1 112 = .ok (.iinc 5 1, 3) := by decide +kernel
theorem dMA_find_115 : decode mMA_find.2.1 115 = .ok (.goto (-106), 3) := by decide +kernel
theorem dMA_find_118 : decode mMA_find.2.1 118 = .ok (.iconst 0, 1) := by decide +kernel
theorem dMA_find_119 : decode mMA_find.2.1 119 = .ok (.ireturn, 1) := by decide +kernel
theorem dMA_drawWorld_0 : decode mMA_drawWorld.2.1 0 = .ok (.iconst 0, 1) := by decide +kernel
theorem dMA_drawWorld_1 : decode mMA_drawWorld.2.1 1 = .ok (.istore_n 1, 1) := by decide +kernel
theorem dMA_drawWorld_2 : decode mMA_drawWorld.2.1 2 = .ok (.iload_n 1, 1) := by decide +kernel
theorem dMA_drawWorld_3 : decode mMA_drawWorld.2.1 3 = .ok (.aload_n 0, 1) := by decide +kernel
theorem dMA_drawWorld_4 : decode mMA_drawWorld.2.1 4 = .ok (.getfield 29, 3) := by decide +kernel
theorem dMA_drawWorld_7 : decode mMA_drawWorld.2.1 7 = .ok (.if_icmp .ge 28, 3) := by decide +kernel
theorem dMA_drawWorld_10 : decode mMA_drawWorld.2.1 10 = .ok (.aload_n 0, 1) := by decide +kernel
theorem dMA_drawWorld_11 : decode mMA_drawWorld.2.1 11 = .ok (.getfield 9, 3) := by decide +kernel
theorem dMA_drawWorld_14 : decode mMA_drawWorld.2.1 14 = .ok (.iload_n 1, 1) := by decide +kernel
theorem dMA_drawWorld_15 : decode mMA_drawWorld.2.1 15 = .ok (.aload_n 0, 1) := by decide +kernel
theorem dMA_drawWorld_16 : decode mMA_drawWorld.2.1 16 = .ok (.getfield 25, 3) := by decide +kernel
theorem dMA_drawWorld_19 : decode mMA_drawWorld.2.1 19 = .ok (.invokestatic 78, 3) := by decide +kernel
theorem dMA_drawWorld_22 : decode mMA_drawWorld.2.1 22 = .ok (.iload_n 1, 1) := by decide +kernel
theorem dMA_drawWorld_23 : decode mMA_drawWorld.2.1 23 = .ok (.aload_n 0, 1) := by decide +kernel
theorem dMA_drawWorld_24 : decode mMA_drawWorld.2.1 24 = .ok (.getfield 25, 3) := by decide +kernel
theorem dMA_drawWorld_27 : decode mMA_drawWorld.2.1 27 = .ok (.irem, 1) := by decide +kernel
theorem dMA_drawWorld_28 : decode mMA_drawWorld.2.1 28 = .ok (.iastore, 1) := by decide +kernel
theorem dMA_drawWorld_29 : decode mMA_drawWorld.2.1 29 = .ok (.iinc 1 1, 3) := by decide +kernel
theorem dMA_drawWorld_32 : decode mMA_drawWorld.2.1 32 = .ok (.goto (-30), 3) := by decide +kernel
theorem dMA_drawWorld_35 : decode mMA_drawWorld.2.1 35 = .ok (.bipush 10, 2) := by decide +kernel
theorem dMA_drawWorld_37 : decode mMA_drawWorld.2.1 37 = .ok (.istore_n 1, 1) := by decide +kernel
theorem dMA_drawWorld_38 : decode mMA_drawWorld.2.1 38 = .ok (.iload_n 1, 1) := by decide +kernel
theorem dMA_drawWorld_39 : decode mMA_drawWorld.2.1 39 = .ok (.bipush 10, 2) := by decide +kernel
theorem dMA_drawWorld_41 : decode mMA_drawWorld.2.1 41 = .ok (.aload_n 0, 1) := by decide +kernel
theorem dMA_drawWorld_42 : decode mMA_drawWorld.2.1 42 = .ok (.getfield 29, 3) := by decide +kernel
theorem dMA_drawWorld_45 : decode mMA_drawWorld.2.1 45 = .ok (.aload_n 0, 1) := by decide +kernel
theorem dMA_drawWorld_46 : decode mMA_drawWorld.2.1 46 = .ok (.getfield 25, 3) := by decide +kernel
theorem dMA_drawWorld_49 : decode mMA_drawWorld.2.1 49 = .ok (.idiv, 1) := by decide +kernel
theorem dMA_drawWorld_50 : decode mMA_drawWorld.2.1 50 = .ok (.imul, 1) := by decide +kernel
theorem dMA_drawWorld_51 : decode mMA_drawWorld.2.1 51 = .ok (.if_icmp .gt 71, 3) := by decide +kernel
theorem dMA_drawWorld_54 : decode mMA_drawWorld.2.1 54 = .ok (.aload_n 0, 1) := by decide +kernel
theorem dMA_drawWorld_55 : decode mMA_drawWorld.2.1 55 = .ok (.getfield 25, 3) := by decide +kernel
theorem dMA_drawWorld_58 : decode mMA_drawWorld.2.1 58 = .ok (.iconst 1, 1) := by decide +kernel
theorem dMA_drawWorld_59 : decode mMA_drawWorld.2.1 59 = .ok (.isub, 1) := by decide +kernel
theorem dMA_drawWorld_60 : decode mMA_drawWorld.2.1 60 = .ok (.istore_n 2, 1) := by decide +kernel
theorem dMA_drawWorld_61 : decode mMA_drawWorld.2.1 61 = .ok (.iload_n 2, 1) := by decide +kernel
theorem dMA_drawWorld_62 : decode mMA_drawWorld.2.1 62 = .ok (.iconst 1, 1) := by decide +kernel
theorem dMA_drawWorld_63 : decode mMA_drawWorld.2.1 63 = .ok (.if_icmp .lt 53, 3) := by decide +kernel
theorem dMA_drawWorld_66 : decode mMA_drawWorld.2.1 66 = .ok (.aload_n 0, 1) := by decide +kernel
theorem dMA_drawWorld_67 : decode mMA_drawWorld.2.1 67 = .ok (.iload_n 2, 1) := by decide +kernel
theorem dMA_drawWorld_68 : decode mMA_drawWorld.2.1 68 = .ok (.iconst 1, 1) := by decide +kernel
theorem dMA_drawWorld_69 : decode mMA_drawWorld.2.1 69 = .ok (.iadd, 1) := by decide +kernel
theorem dMA_drawWorld_70 : decode mMA_drawWorld.2.1 70 = .ok (.invokevirtual 84, 3) := by decide +kernel
theorem dMA_drawWorld_73 : decode mMA_drawWorld.2.1 73 = .ok (.istore_n 3, 1) := by decide +kernel
theorem dMA_drawWorld_74 : decode mMA_drawWorld.2.1 74 = .ok (.aload_n 0, 1) := by decide +kernel
theorem dMA_drawWorld_75 : decode mMA_drawWorld.2.1 75 = .ok (.getfield 9, 3) := by decide +kernel
theorem dMA_drawWorld_78 : decode mMA_drawWorld.2.1 78 = .ok (.iload_n 1, 1) := by decide +kernel
theorem dMA_drawWorld_79 : decode mMA_drawWorld.2.1 79 = .ok (.iload_n 2, 1) := by decide +kernel
theorem dMA_drawWorld_80 : decode mMA_drawWorld.2.1 80 = .ok (.iadd, 1) := by decide +kernel
theorem dMA_drawWorld_81 : decode mMA_drawWorld.2.1 81 = .ok (.iaload, 1) := by decide +kernel
theorem dMA_drawWorld_82 : decode mMA_drawWorld.2.1 82 = .ok (.istore 4, 2) := by decide +kernel
theorem dMA_drawWorld_84 : decode mMA_drawWorld.2.1 84 = .ok (.aload_n 0, 1) := by decide +kernel
theorem dMA_drawWorld_85 : decode mMA_drawWorld.2.1 85 = .ok (.getfield 9, 3) := by decide +kernel
theorem dMA_drawWorld_88 : decode mMA_drawWorld.2.1 88 = .ok (.iload_n 1, 1) := by decide +kernel
theorem dMA_drawWorld_89 : decode mMA_drawWorld.2.1 89 = .ok (.iload_n 2, 1) := by decide +kernel
theorem dMA_drawWorld_90 : decode mMA_drawWorld.2.1 90 = .ok (.iadd, 1) := by decide +kernel
theorem dMA_drawWorld_91 : decode mMA_drawWorld.2.1 91 = .ok (.aload_n 0, 1) := by decide +kernel
theorem dMA_drawWorld_92 : decode mMA_drawWorld.2.1 92 = .ok (.getfield 9, 3) := by decide +kernel
theorem dMA_drawWorld_95 : decode mMA_drawWorld.2.1 95 = .ok (.iload_n 1, 1) := by decide +kernel
theorem dMA_drawWorld_96 : decode mMA_drawWorld.2.1 96 = .ok (.iload_n 3, 1) := by decide +kernel
theorem dMA_drawWorld_97 : decode mMA_drawWorld.2.1 97 = .ok (.iadd, 1) := by decide +kernel
theorem dMA_drawWorld_98 : decode mMA_drawWorld.2.1 98 = .ok (.iaload, 1) := by decide +kernel
theorem dMA_drawWorld_99 : decode mMA_drawWorld.2.1 99 = .ok (.iastore, 1) := by decide +kernel
theorem dMA_drawWorld_100 : decode mMA_drawWorld.2.1 100 = .ok (.aload_n 0, 1) := by decide +kernel
theorem dMA_drawWorld_101 : decode mMA_drawWorld.2.1 101 = .ok (.getfield 9, 3) := by decide +kernel
theorem dMA_drawWorld_104 : decode mMA_drawWorld.2.1 104 = .ok (.iload_n 1, 1) := by decide +kernel
theorem dMA_drawWorld_105 : decode mMA_drawWorld.2.1 105 = .ok (.iload_n 3, 1) := by decide +kernel
theorem dMA_drawWorld_106 : decode mMA_drawWorld.2.1 106 = .ok (.iadd, 1) := by decide +kernel
theorem dMA_drawWorld_107 : decode mMA_drawWorld.2.1 107 = .ok (.iload 4, 2) := by decide +kernel
theorem dMA_drawWorld_109 : decode mMA_drawWorld.2.1 109 = .ok (.iastore, 1) := by decide +kernel
theorem dMA_drawWorld_110 : decode mMA_drawWorld.2.1 110 = .ok (.iinc 2 (-1), 3) := by decide +kernel
theorem dMA_drawWorld_113 : decode mMA_drawWorld.2.1 113 = .ok (.goto (-52), 3) := by decide +kernel
theorem dMA_drawWorld_116 : decode mMA_drawWorld.2.1 116 = .ok (.iinc 1 10, 3) := by decide +kernel
theorem dMA_drawWorld_119 : decode mMA_drawWorld.2.1 119 = .ok (.goto (-81), 3) := by decide +kernel
theorem dMA_drawWorld_122 : decode mMA_drawWorld.2.1 122 = .ok (.return_, 1) := by decide +kernel
theorem dMA_draw_0 : decode mMA_draw.2.1 0 = .ok (.aload_n 0, 1) := by decide +kernel
theorem dMA_draw_1 : decode mMA_draw.2.1 1 = .ok (.ldc2_w 74, 3) := by decide +kernel
theorem dMA_draw_4 : decode mMA_draw.2.1 4 = .ok (.aload_n 0, 1) := by decide +kernel
theorem dMA_draw_5 : decode mMA_draw.2.1 5 = .ok (.getfield 32, 3) := by decide +kernel
theorem dMA_draw_8 : decode mMA_draw.2.1 8 = .ok (.lmul, 1) := by decide +kernel
theorem dMA_draw_9 : decode mMA_draw.2.1 9 = .ok (.ldc2_w 76, 3) := by decide +kernel
theorem dMA_draw_12 : decode mMA_draw.2.1 12 = .ok (.lrem, 1) := by decide +kernel
theorem dMA_draw_13 : decode mMA_draw.2.1 13 = .ok (.putfield 32, 3) := by decide +kernel
theorem dMA_draw_16 : decode mMA_draw.2.1 16 = .ok (.aload_n 0, 1) := by decide +kernel
theorem dMA_draw_17 : decode mMA_draw.2.1 17 = .ok (.getfield 32, 3) := by decide +kernel
theorem dMA_draw_20 : decode mMA_draw.2.1 20 = .ok (.iload_n 1, 1) := by decide +kernel
theorem dMA_draw_21 : decode mMA_draw.2.1 21 = .ok (.i2l, 1) := by decide +kernel
theorem dMA_draw_22 : decode mMA_draw.2.1 22 = .ok (.lrem, 1) := by decide +kernel
theorem dMA_draw_23 : decode mMA_draw.2.1 23 = .ok (.l2i, 1) := by decide +kernel
theorem dMA_draw_24 : decode mMA_draw.2.1 24 = .ok (.ireturn, 1) := by decide +kernel
theorem dMA_gather_0 : decode mMA_gather.2.1 0 = .ok (.aload_n 0, 1) := by decide +kernel
theorem dMA_gather_1 : decode mMA_gather.2.1 1 = .ok (.iconst 0, 1) := by decide +kernel
theorem dMA_gather_2 : decode mMA_gather.2.1 2 = .ok (.putfield 48, 3) := by decide +kernel
theorem dMA_gather_5 : decode mMA_gather.2.1 5 = .ok (.iconst 0, 1) := by decide +kernel
theorem dMA_gather_6 : decode mMA_gather.2.1 6 = .ok (.istore_n 1, 1) := by decide +kernel
theorem dMA_gather_7 : decode mMA_gather.2.1 7 = .ok (.iload_n 1, 1) := by decide +kernel
theorem dMA_gather_8 : decode mMA_gather.2.1 8 = .ok (.bipush 6, 2) := by decide +kernel
theorem dMA_gather_10 : decode mMA_gather.2.1 10 = .ok (.if_icmp .gt 38, 3) := by decide +kernel
theorem dMA_gather_13 : decode mMA_gather.2.1 13 = .ok (.iconst 0, 1) := by decide +kernel
theorem dMA_gather_14 : decode mMA_gather.2.1 14 = .ok (.istore_n 2, 1) := by decide +kernel
theorem dMA_gather_15 : decode mMA_gather.2.1 15 = .ok (.iload_n 2, 1) := by decide +kernel
theorem dMA_gather_16 : decode mMA_gather.2.1 16 = .ok (.aload_n 0, 1) := by decide +kernel
theorem dMA_gather_17 : decode mMA_gather.2.1 17 = .ok (.getfield 29, 3) := by decide +kernel
theorem dMA_gather_20 : decode mMA_gather.2.1 20 = .ok (.if_icmp .ge 22, 3) := by decide +kernel
theorem dMA_gather_23 : decode mMA_gather.2.1 23 = .ok (.aload_n 0, 1) := by decide +kernel
theorem dMA_gather_24 : decode mMA_gather.2.1 24 = .ok (.iload_n 1, 1) := by decide +kernel
theorem dMA_gather_25 : decode mMA_gather.2.1 25 = .ok (.iload_n 2, 1) := by decide +kernel
theorem dMA_gather_26 : decode mMA_gather.2.1 26 = .ok (.aload_n 0, 1) := by decide +kernel
theorem dMA_gather_27 : decode mMA_gather.2.1 27 = .ok (.getfield 25, 3) := by decide +kernel
theorem dMA_gather_30 : decode mMA_gather.2.1 30 = .ok (.invokestatic 78, 3) := by decide +kernel
theorem dMA_gather_33 : decode mMA_gather.2.1 33 = .ok (.invokevirtual 88, 3) := by decide +kernel
theorem dMA_gather_36 : decode mMA_gather.2.1 36 = .ok (.iinc 2 1, 3) := by decide +kernel
theorem dMA_gather_39 : decode mMA_gather.2.1 39 = .ok (.goto (-24), 3) := by decide +kernel
theorem dMA_gather_42 : decode mMA_gather.2.1 42 = .ok (.iinc 1 1, 3) := by decide +kernel
theorem dMA_gather_45 : decode mMA_gather.2.1 45 = .ok (.goto (-38), 3) := by decide +kernel
theorem dMA_gather_48 : decode mMA_gather.2.1 48 = .ok (.return_, 1) := by decide +kernel
theorem dMA_gatherFor_0 : decode mMA_gatherFor.2.1 0 = .ok (.iload_n 1, 1) := by decide +kernel
theorem dMA_gatherFor_1 : decode mMA_gatherFor.2.1 1 = .ok (.bipush 6, 2) := by decide +kernel
theorem dMA_gatherFor_3 : decode mMA_gatherFor.2.1 3 = .ok (.if_icmp .ne 12, 3) := by decide +kernel
theorem dMA_gatherFor_6 : decode mMA_gatherFor.2.1 6 = .ok (.aload_n 0, 1) := by decide +kernel
theorem dMA_gatherFor_7 : decode mMA_gatherFor.2.1 7 = .ok (.iload_n 1, 1) := by decide +kernel
theorem dMA_gatherFor_8 : decode mMA_gatherFor.2.1 8 = .ok (.iload_n 2, 1) := by decide +kernel
theorem dMA_gatherFor_9 : decode mMA_gatherFor.2.1 9 = .ok (.iconst 0, 1) := by decide +kernel
theorem dMA_gatherFor_10 : decode mMA_gatherFor.2.1 10 = .ok (.iconst 0, 1) := by decide +kernel
theorem dMA_gatherFor_11 : decode mMA_gatherFor.2.1 11 = .ok (.invokevirtual 92, 3) := by decide +kernel
theorem dMA_gatherFor_14 : decode mMA_gatherFor.2.1 14 = .ok (.return_, 1) := by decide +kernel
theorem dMA_gatherFor_15 : decode mMA_gatherFor.2.1 15 = .ok (.iconst 0, 1) := by decide +kernel
theorem dMA_gatherFor_16 : decode mMA_gatherFor.2.1 16 = .ok (.istore_n 3, 1) := by decide +kernel
theorem dMA_gatherFor_17 : decode mMA_gatherFor.2.1 17 = .ok (.iload_n 3, 1) := by decide +kernel
theorem dMA_gatherFor_18 : decode mMA_gatherFor.2.1 18 = .ok (.aload_n 0, 1) := by decide +kernel
theorem dMA_gatherFor_19 : decode mMA_gatherFor.2.1 19 = .ok (.getfield 29, 3) := by decide +kernel
theorem dMA_gatherFor_22 : decode mMA_gatherFor.2.1 22 = .ok (.if_icmp .ge 96, 3) := by decide +kernel
theorem dMA_gatherFor_25 : decode mMA_gatherFor.2.1 25 = .ok (.iload_n 3, 1) := by decide +kernel
theorem dMA_gatherFor_26 : decode mMA_gatherFor.2.1 26 = .ok (.aload_n 0, 1) := by decide +kernel
theorem dMA_gatherFor_27 : decode mMA_gatherFor.2.1 27 = .ok (.getfield 25, 3) := by decide +kernel
theorem dMA_gatherFor_30 : decode mMA_gatherFor.2.1 30 = .ok (.invokestatic 78, 3) := by decide +kernel
theorem dMA_gatherFor_33 : decode mMA_gatherFor.2.1 33 = .ok (.istore 4, 2) := by decide +kernel
theorem dMA_gatherFor_35 : decode mMA_gatherFor.2.1 35 = .ok (.iload_n 1, 1) := by decide +kernel
theorem dMA_gatherFor_36 : decode mMA_gatherFor.2.1 36 = .ok (.iload_n 2, 1) := by decide +kernel
theorem dMA_gatherFor_37 : decode mMA_gatherFor.2.1 37 = .ok (.iload 4, 2) := by decide +kernel
theorem dMA_gatherFor_39 : decode mMA_gatherFor.2.1 39 = .ok (.invokestatic 96, 3) := by decide +kernel
theorem dMA_gatherFor_42 : decode mMA_gatherFor.2.1 42 = .ok (.ifCond .ne 6, 3) := by decide +kernel
theorem dMA_gatherFor_45 : decode mMA_gatherFor.2.1 45 = .ok (.goto 67, 3) := by decide +kernel
theorem dMA_gatherFor_48 : decode mMA_gatherFor.2.1 48 = .ok (.iload_n 1, 1) := by decide +kernel
theorem dMA_gatherFor_49 : decode mMA_gatherFor.2.1 49 = .ok (.iconst 5, 1) := by decide +kernel
theorem dMA_gatherFor_50 : decode mMA_gatherFor.2.1 50 = .ok (.if_icmp .eq 15, 3) := by decide +kernel
theorem dMA_gatherFor_53 : decode mMA_gatherFor.2.1 53 = .ok (.aload_n 0, 1) := by decide +kernel
theorem dMA_gatherFor_54 : decode mMA_gatherFor.2.1 54 = .ok (.iload_n 1, 1) := by decide +kernel
theorem dMA_gatherFor_55 : decode mMA_gatherFor.2.1 55 = .ok (.iload_n 2, 1) := by decide +kernel
theorem dMA_gatherFor_56 : decode mMA_gatherFor.2.1 56 = .ok (.iload 4, 2) := by decide +kernel
theorem dMA_gatherFor_58 : decode mMA_gatherFor.2.1 58 = .ok (.iconst 0, 1) := by decide +kernel
theorem dMA_gatherFor_59 : decode mMA_gatherFor.2.1 59 = .ok (.invokevirtual 92, 3) := by decide +kernel
theorem dMA_gatherFor_62 : decode mMA_gatherFor.2.1 62 = .ok (.goto 50, 3) := by decide +kernel
theorem dMA_gatherFor_65 : decode mMA_gatherFor.2.1 65 = .ok (.iload_n 3, 1) := by decide +kernel
theorem dMA_gatherFor_66 : decode mMA_gatherFor.2.1 66 = .ok (.iconst 1, 1) := by decide +kernel
theorem dMA_gatherFor_67 : decode mMA_gatherFor.2.1 67 = .ok (.iadd, 1) := by decide +kernel
theorem dMA_gatherFor_68 : decode mMA_gatherFor.2.1 68 = .ok (.istore 5, 2) := by decide +kernel
theorem dMA_gatherFor_70 : decode mMA_gatherFor.2.1 70 = .ok (.iload 5, 2) := by decide +kernel
theorem dMA_gatherFor_72 : decode mMA_gatherFor.2.1 72 = .ok (.aload_n 0, 1) := by decide +kernel
theorem dMA_gatherFor_73 : decode mMA_gatherFor.2.1 73 = .ok (.getfield 29, 3) := by decide +kernel
theorem dMA_gatherFor_76 : decode mMA_gatherFor.2.1 76 = .ok (.if_icmp .ge 36, 3) := by decide +kernel
theorem dMA_gatherFor_79 : decode mMA_gatherFor.2.1 79 = .ok (.iload 5, 2) := by decide +kernel
theorem dMA_gatherFor_81 : decode mMA_gatherFor.2.1 81 = .ok (.aload_n 0, 1) := by decide +kernel
theorem dMA_gatherFor_82 : decode mMA_gatherFor.2.1 82 = .ok (.getfield 25, 3) := by decide +kernel
theorem dMA_gatherFor_85 : decode mMA_gatherFor.2.1 85 = .ok (.invokestatic 78, 3) := by decide +kernel
theorem dMA_gatherFor_88 : decode mMA_gatherFor.2.1 88 = .ok (.istore 6, 2) := by decide +kernel
theorem dMA_gatherFor_90 : decode mMA_gatherFor.2.1 90 = .ok (.iload 6, 2) := by decide +kernel
theorem dMA_gatherFor_92 : decode mMA_gatherFor.2.1 92 = .ok (.iload_n 2, 1) := by decide +kernel
theorem dMA_gatherFor_93 : decode mMA_gatherFor.2.1 93 = .ok (.if_icmp .eq 13, 3) := by decide +kernel
theorem dMA_gatherFor_96 : decode mMA_gatherFor.2.1 96 = .ok (.aload_n 0, 1) := by decide +kernel
theorem dMA_gatherFor_97 : decode mMA_gatherFor.2.1 97 = .ok (.iload_n 1, 1) := by decide +kernel
theorem dMA_gatherFor_98 : decode mMA_gatherFor.2.1 98 = .ok (.iload_n 2, 1) := by decide +kernel
theorem dMA_gatherFor_99 : decode mMA_gatherFor.2.1 99 = .ok (.iload 4, 2) := by decide +kernel
theorem dMA_gatherFor_101 : decode mMA_gatherFor.2.1 101 = .ok (.iload 6, 2) := by decide +kernel
theorem dMA_gatherFor_103 : decode mMA_gatherFor.2.1 103 = .ok (.invokevirtual 92, 3) := by decide +kernel
theorem dMA_gatherFor_106 : decode mMA_gatherFor.2.1 106 = .ok (.iinc 5 1, 3) := by decide +kernel
theorem dMA_gatherFor_109 : decode mMA_gatherFor.2.1 109 = .ok (.goto (-39), 3) := by decide +kernel
theorem dMA_gatherFor_112 : decode mMA_gatherFor.2.1 112 = .ok (.iinc 3 1, 3) := by decide +kernel
theorem dMA_gatherFor_115 : decode mMA_gatherFor.2.1 115 = .ok (.goto (-98), 3) := by decide +kernel
theorem dMA_gatherFor_118 : decode mMA_gatherFor.2.1 118 = .ok (.return_, 1) := by decide +kernel
theorem dMA_consider_0 : decode mMA_consider.2.1 0 = .ok (.iload_n 1, 1) := by decide +kernel
theorem dMA_consider_1 : decode mMA_consider.2.1 1 = .ok (.invokestatic 100, 3) := by decide +kernel
theorem dMA_consider_4 : decode mMA_consider.2.1 4 = .ok (.istore 5, 2) := by decide +kernel
theorem dMA_consider_6 : decode mMA_consider.2.1 6 = .ok (.iload 5, 2) := by decide +kernel
theorem dMA_consider_8 : decode mMA_consider.2.1 8 = .ok (.iload_n 1, 1) := by decide +kernel
theorem dMA_consider_9 : decode mMA_consider.2.1 9 = .ok (.aload_n 0, 1) := by decide +kernel
theorem dMA_consider_10 : decode mMA_consider.2.1 10 = .ok (.getfield 25, 3) := by decide +kernel
theorem dMA_consider_13 : decode mMA_consider.2.1 13 = .ok (.iconst 0, 1) := by decide +kernel
theorem dMA_consider_14 : decode mMA_consider.2.1 14 = .ok (.invokestatic 103, 3) := by decide +kernel
theorem dMA_consider_17 : decode mMA_consider.2.1 17 = .ok (.if_icmp .gt 77, 3) := by decide +kernel
theorem dMA_consider_20 : decode mMA_consider.2.1 20 = .ok (.iload_n 1, 1) := by decide +kernel
theorem dMA_consider_21 : decode mMA_consider.2.1 21 = .ok (.iload 5, 2) := by decide +kernel
theorem dMA_consider_23 : decode mMA_consider.2.1 23 = .ok (.aload_n 0, 1) := by decide +kernel
theorem dMA_consider_24 : decode mMA_consider.2.1 24 = .ok (.getfield 9, 3) := by decide +kernel
theorem dMA_consider_27 : decode mMA_consider.2.1 27 = .ok (.iload_n 2, 1) := by decide +kernel
theorem dMA_consider_28 : decode mMA_consider.2.1 28 = .ok (.iaload, 1) := by decide +kernel
theorem dMA_consider_29 : decode mMA_consider.2.1 29 = .ok (.aload_n 0, 1) := by decide +kernel
theorem dMA_consider_30 : decode mMA_consider.2.1 30 = .ok (.getfield 9, 3) := by decide +kernel
theorem dMA_consider_33 : decode mMA_consider.2.1 33 = .ok (.iload_n 3, 1) := by decide +kernel
theorem dMA_consider_34 : decode mMA_consider.2.1 34 = .ok (.iaload, 1) := by decide +kernel
theorem dMA_consider_35 : decode mMA_consider.2.1 35 = .ok (.aload_n 0, 1) := by decide +kernel
theorem dMA_consider_36 : decode mMA_consider.2.1 36 = .ok (.getfield 9, 3) := by decide +kernel
theorem dMA_consider_39 : decode mMA_consider.2.1 39 = .ok (.iload 4, 2) := by decide +kernel
theorem dMA_consider_41 : decode mMA_consider.2.1 41 = .ok (.iaload, 1) := by decide +kernel
theorem dMA_consider_42 : decode mMA_consider.2.1 42 = .ok (.invokestatic 107, 3) := by decide +kernel
theorem dMA_consider_45 : decode mMA_consider.2.1 45 = .ok (.ifCond .eq 43, 3) := by decide +kernel
theorem dMA_consider_48 : decode mMA_consider.2.1 48 = .ok (.aload_n 0, 1) := by decide +kernel
theorem dMA_consider_49 : decode mMA_consider.2.1 49 = .ok (.getfield 48, 3) := by decide +kernel
theorem dMA_consider_52 : decode mMA_consider.2.1 52 = .ok (.sipush 320, 3) := by decide +kernel
theorem dMA_consider_55 : decode mMA_consider.2.1 55 = .ok (.if_icmp .ge 33, 3) := by decide +kernel
theorem dMA_consider_58 : decode mMA_consider.2.1 58 = .ok (.aload_n 0, 1) := by decide +kernel
theorem dMA_consider_59 : decode mMA_consider.2.1 59 = .ok (.getfield 15, 3) := by decide +kernel
theorem dMA_consider_62 : decode mMA_consider.2.1 62 = .ok (.aload_n 0, 1) := by decide +kernel
theorem dMA_consider_63 : decode mMA_consider.2.1 63 = .ok (.getfield 48, 3) := by decide +kernel
theorem dMA_consider_66 : decode mMA_consider.2.1 66 = .ok (.iload_n 1, 1) := by decide +kernel
theorem dMA_consider_67 : decode mMA_consider.2.1 67 = .ok (.iload_n 2, 1) := by decide +kernel
theorem dMA_consider_68 : decode mMA_consider.2.1 68 = .ok (.iload_n 3, 1) := by decide +kernel
theorem dMA_consider_69 : decode mMA_consider.2.1 69 = .ok (.iload 4, 2) := by decide +kernel
theorem dMA_consider_71 : decode mMA_consider.2.1 71 = .ok (.iload 5, 2) := by decide +kernel
theorem dMA_consider_73 : decode mMA_consider.2.1 73 = .ok (.iconst (-1), 1) := by decide +kernel
theorem dMA_consider_74 : decode mMA_consider.2.1 74 = .ok (.invokestatic 111, 3) := by decide +kernel
theorem dMA_consider_77 : decode mMA_consider.2.1 77 = .ok (.iastore, 1) := by decide +kernel
theorem dMA_consider_78 : decode mMA_consider.2.1 78 = .ok (.aload_n 0, 1) := by decide +kernel
theorem dMA_consider_79 : decode mMA_consider.2.1 79 = .ok (.dup, 1) := by decide +kernel
theorem dMA_consider_80 : decode mMA_consider.2.1 80 = .ok (.getfield 48, 3) := by decide +kernel
theorem dMA_consider_83 : decode mMA_consider.2.1 83 = .ok (.iconst 1, 1) := by decide +kernel
theorem dMA_consider_84 : decode mMA_consider.2.1 84 = .ok (.iadd, 1) := by decide +kernel
theorem dMA_consider_85 : decode mMA_consider.2.1 85 = .ok (.putfield 48, 3) := by decide +kernel
theorem dMA_consider_88 : decode mMA_consider.2.1 88 = .ok (.iinc 5 1, 3) := by decide +kernel
theorem dMA_consider_91 : decode mMA_consider.2.1 91 = .ok (.goto (-85), 3) := by decide +kernel
theorem dMA_consider_94 : decode mMA_consider.2.1 94 = .ok (.return_, 1) := by decide +kernel
theorem dMA_isPair_0 : decode mMA_isPair.2.1 0 = .ok (.iload_n 0, 1) := by decide +kernel
theorem dMA_isPair_1 : decode mMA_isPair.2.1 1 = .ok (.tableswitch 68 0 4 #[35, 35, 68, 57, 57], 35) := by decide +kernel
theorem dMA_isPair_36 : decode mMA_isPair.2.1 36 = .ok (.iload_n 1, 1) := by decide +kernel
theorem dMA_isPair_37 : decode mMA_isPair.2.1 37 = .ok (.iload_n 2, 1) := by decide +kernel
theorem dMA_isPair_38 : decode mMA_isPair.2.1 38 = .ok (.if_icmp .ge 18, 3) := by decide +kernel
theorem dMA_isPair_41 : decode mMA_isPair.2.1 41 = .ok (.iload_n 1, 1) := by decide +kernel
theorem dMA_isPair_42 : decode mMA_isPair.2.1 42 = .ok (.bipush 10, 2) := by decide +kernel
theorem dMA_isPair_44 : decode mMA_isPair.2.1 44 = .ok (.idiv, 1) := by decide +kernel
theorem dMA_isPair_45 : decode mMA_isPair.2.1 45 = .ok (.iload_n 2, 1) := by decide +kernel
theorem dMA_isPair_46 : decode mMA_isPair.2.1 46 = .ok (.bipush 10, 2) := by decide +kernel
theorem dMA_isPair_48 : decode mMA_isPair.2.1 48 = .ok (.idiv, 1) := by decide +kernel
theorem dMA_isPair_49 : decode mMA_isPair.2.1 49 = .ok (.if_icmp .eq 7, 3) := by decide +kernel
theorem dMA_isPair_52 : decode mMA_isPair.2.1 52 = .ok (.iconst 1, 1) := by decide +kernel
theorem dMA_isPair_53 : decode mMA_isPair.2.1 53 = .ok (.goto 4, 3) := by decide +kernel
theorem dMA_isPair_56 : decode mMA_isPair.2.1 56 = .ok (.iconst 0, 1) := by decide +kernel
theorem dMA_isPair_57 : decode mMA_isPair.2.1 57 = .ok (.ireturn, 1) := by decide +kernel
theorem dMA_isPair_58 : decode mMA_isPair.2.1 58 = .ok (.iload_n 1, 1) := by decide +kernel
theorem dMA_isPair_59 : decode mMA_isPair.2.1 59 = .ok (.iload_n 2, 1) := by decide +kernel
theorem dMA_isPair_60 : decode mMA_isPair.2.1 60 = .ok (.if_icmp .ge 7, 3) := by decide +kernel
theorem dMA_isPair_63 : decode mMA_isPair.2.1 63 = .ok (.iconst 1, 1) := by decide +kernel
theorem dMA_isPair_64 : decode mMA_isPair.2.1 64 = .ok (.goto 4, 3) := by decide +kernel
theorem dMA_isPair_67 : decode mMA_isPair.2.1 67 = .ok (.iconst 0, 1) := by decide +kernel
theorem dMA_isPair_68 : decode mMA_isPair.2.1 68 = .ok (.ireturn, 1) := by decide +kernel
theorem dMA_isPair_69 : decode mMA_isPair.2.1 69 = .ok (.iload_n 1, 1) := by decide +kernel
theorem dMA_isPair_70 : decode mMA_isPair.2.1 70 = .ok (.iload_n 2, 1) := by decide +kernel
theorem dMA_isPair_71 : decode mMA_isPair.2.1 71 = .ok (.if_icmp .eq 7, 3) := by decide +kernel
theorem dMA_isPair_74 : decode mMA_isPair.2.1 74 = .ok (.iconst 1, 1) := by decide +kernel
theorem dMA_isPair_75 : decode mMA_isPair.2.1 75 = .ok (.goto 4, 3) := by decide +kernel
theorem dMA_isPair_78 : decode mMA_isPair.2.1 78 = .ok (.iconst 0, 1) := by decide +kernel
theorem dMA_isPair_79 : decode mMA_isPair.2.1 79 = .ok (.ireturn, 1) := by decide +kernel
theorem dMA_mix_0 : decode mMA_mix.2.1 0 = .ok (.aload_n 0, 1) := by decide +kernel
theorem dMA_mix_1 : decode mMA_mix.2.1 1 = .ok (.getfield 48, 3) := by decide +kernel
theorem dMA_mix_4 : decode mMA_mix.2.1 4 = .ok (.iconst 1, 1) := by decide +kernel
theorem dMA_mix_5 : decode mMA_mix.2.1 5 = .ok (.isub, 1) := by decide +kernel
theorem dMA_mix_6 : decode mMA_mix.2.1 6 = .ok (.istore_n 1, 1) := by decide +kernel
theorem dMA_mix_7 : decode mMA_mix.2.1 7 = .ok (.iload_n 1, 1) := by decide +kernel
theorem dMA_mix_8 : decode mMA_mix.2.1 8 = .ok (.iconst 1, 1) := by decide +kernel
theorem dMA_mix_9 : decode mMA_mix.2.1 9 = .ok (.if_icmp .lt 43, 3) := by decide +kernel
theorem dMA_mix_12 : decode mMA_mix.2.1 12 = .ok (.aload_n 0, 1) := by decide +kernel
theorem dMA_mix_13 : decode mMA_mix.2.1 13 = .ok (.iload_n 1, 1) := by decide +kernel
theorem dMA_mix_14 : decode mMA_mix.2.1 14 = .ok (.iconst 1, 1) := by decide +kernel
theorem dMA_mix_15 : decode mMA_mix.2.1 15 = .ok (.iadd, 1) := by decide +kernel
theorem dMA_mix_16 : decode mMA_mix.2.1 16 = .ok (.invokevirtual 84, 3) := by decide +kernel
theorem dMA_mix_19 : decode mMA_mix.2.1 19 = .ok (.istore_n 2, 1) := by decide +kernel
theorem dMA_mix_20 : decode mMA_mix.2.1 20 = .ok (.aload_n 0, 1) := by decide +kernel
theorem dMA_mix_21 : decode mMA_mix.2.1 21 = .ok (.getfield 15, 3) := by decide +kernel
theorem dMA_mix_24 : decode mMA_mix.2.1 24 = .ok (.iload_n 1, 1) := by decide +kernel
theorem dMA_mix_25 : decode mMA_mix.2.1 25 = .ok (.iaload, 1) := by decide +kernel
theorem dMA_mix_26 : decode mMA_mix.2.1 26 = .ok (.istore_n 3, 1) := by decide +kernel
theorem dMA_mix_27 : decode mMA_mix.2.1 27 = .ok (.aload_n 0, 1) := by decide +kernel
theorem dMA_mix_28 : decode mMA_mix.2.1 28 = .ok (.getfield 15, 3) := by decide +kernel
theorem dMA_mix_31 : decode mMA_mix.2.1 31 = .ok (.iload_n 1, 1) := by decide +kernel
theorem dMA_mix_32 : decode mMA_mix.2.1 32 = .ok (.aload_n 0, 1) := by decide +kernel
theorem dMA_mix_33 : decode mMA_mix.2.1 33 = .ok (.getfield 15, 3) := by decide +kernel
theorem dMA_mix_36 : decode mMA_mix.2.1 36 = .ok (.iload_n 2, 1) := by decide +kernel
theorem dMA_mix_37 : decode mMA_mix.2.1 37 = .ok (.iaload, 1) := by decide +kernel
theorem dMA_mix_38 : decode mMA_mix.2.1 38 = .ok (.iastore, 1) := by decide +kernel
theorem dMA_mix_39 : decode mMA_mix.2.1 39 = .ok (.aload_n 0, 1) := by decide +kernel
theorem dMA_mix_40 : decode mMA_mix.2.1 40 = .ok (.getfield 15, 3) := by decide +kernel
theorem dMA_mix_43 : decode mMA_mix.2.1 43 = .ok (.iload_n 2, 1) := by decide +kernel
theorem dMA_mix_44 : decode mMA_mix.2.1 44 = .ok (.iload_n 3, 1) := by decide +kernel
theorem dMA_mix_45 : decode mMA_mix.2.1 45 = .ok (.iastore, 1) := by decide +kernel
theorem dMA_mix_46 : decode mMA_mix.2.1 46 = .ok (.iinc 1 (-1), 3) := by decide +kernel
theorem dMA_mix_49 : decode mMA_mix.2.1 49 = .ok (.goto (-42), 3) := by decide +kernel
theorem dMA_mix_52 : decode mMA_mix.2.1 52 = .ok (.return_, 1) := by decide +kernel
theorem dMA_thinOut_0 : decode mMA_thinOut.2.1 0 = .ok (.aload_n 0, 1) := by decide +kernel
theorem dMA_thinOut_1 : decode mMA_thinOut.2.1 1 = .ok (.getfield 21, 3) := by decide +kernel
theorem dMA_thinOut_4 : decode mMA_thinOut.2.1 4 = .ok (.getfield 45, 3) := by decide +kernel
theorem dMA_thinOut_7 : decode mMA_thinOut.2.1 7 = .ok (.iconst 1, 1) := by decide +kernel
theorem dMA_thinOut_8 : decode mMA_thinOut.2.1 8 = .ok (.isub, 1) := by decide +kernel
theorem dMA_thinOut_9 : decode mMA_thinOut.2.1 9 = .ok (.istore_n 2, 1) := by decide +kernel
theorem dMA_thinOut_10 : decode mMA_thinOut.2.1 10 = .ok (.iload_n 2, 1) := by decide +kernel
theorem dMA_thinOut_11 : decode mMA_thinOut.2.1 11 = .ok (.ifCond .lt 29, 3) := by decide +kernel
theorem dMA_thinOut_14 : decode mMA_thinOut.2.1 14 = .ok (.aload_n 1, 1) := by decide +kernel
theorem dMA_thinOut_15 : decode mMA_thinOut.2.1 15 = .ok (.aload_n 0, 1) := by decide +kernel
theorem dMA_thinOut_16 : decode mMA_thinOut.2.1 16 = .ok (.getfield 21, 3) := by decide +kernel
theorem dMA_thinOut_19 : decode mMA_thinOut.2.1 19 = .ok (.iload_n 2, 1) := by decide +kernel
theorem dMA_thinOut_20 : decode mMA_thinOut.2.1 20 = .ok (.invokevirtual 55, 3) := by decide +kernel
theorem dMA_thinOut_23 : decode mMA_thinOut.2.1 23 = .ok (.ifCond .ne 11, 3) := by decide +kernel
theorem dMA_thinOut_26 : decode mMA_thinOut.2.1 26 = .ok (.aload_n 0, 1) := by decide +kernel
theorem dMA_thinOut_27 : decode mMA_thinOut.2.1 27 = .ok (.getfield 21, 3) := by decide +kernel
theorem dMA_thinOut_30 : decode mMA_thinOut.2.1 30 = .ok (.iload_n 2, 1) := by decide +kernel
theorem dMA_thinOut_31 : decode mMA_thinOut.2.1 31 = .ok (.invokevirtual 115, 3) := by decide +kernel
theorem dMA_thinOut_34 : decode mMA_thinOut.2.1 34 = .ok (.iinc 2 (-1), 3) := by decide +kernel
theorem dMA_thinOut_37 : decode mMA_thinOut.2.1 37 = .ok (.goto (-27), 3) := by decide +kernel
theorem dMA_thinOut_40 : decode mMA_thinOut.2.1 40 = .ok (.return_, 1) := by decide +kernel
