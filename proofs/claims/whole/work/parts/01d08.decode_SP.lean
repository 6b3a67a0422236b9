theorem dSP_init_0 : decode mSP_init.2.1 0 = .ok (.aload_n 0, 1) := by decide +kernel
theorem dSP_init_1 : decode mSP_init.2.1 1 = .ok (.invokespecial 3, 3) := by decide +kernel
theorem dSP_init_4 : decode mSP_init.2.1 4 = .ok (.aload_n 0, 1) := by decide +kernel
theorem dSP_init_5 : decode mSP_init.2.1 5 = .ok (.bipush 40, 2) := by decide +kernel
theorem dSP_init_7 : decode mSP_init.2.1 7 = .ok (.newarray .long, 2) := by decide +kernel
theorem dSP_init_9 : decode mSP_init.2.1 9 = .ok (.putfield 9, 3) := by decide +kernel
theorem dSP_init_12 : decode mSP_init.2.1 12 = .ok (.aload_n 0, 1) := by decide +kernel
theorem dSP_init_13 : decode mSP_init.2.1 13 = .ok (.bipush 60, 2) := by decide +kernel
theorem dSP_init_15 : decode mSP_init.2.1 15 = .ok (.newarray .int, 2) := by decide +kernel
theorem dSP_init_17 : decode mSP_init.2.1 17 = .ok (.putfield 15, 3) := by decide +kernel
theorem dSP_init_20 : decode mSP_init.2.1 20 = .ok (.aload_n 0, 1) := by decide +kernel
theorem dSP_init_21 : decode mSP_init.2.1 21 = .ok (.bipush 60, 2) := by decide +kernel
theorem dSP_init_23 : decode mSP_init.2.1 23 = .ok (.newarray .int, 2) := by decide +kernel
theorem dSP_init_25 : decode mSP_init.2.1 25 = .ok (.putfield 19, 3) := by decide +kernel
theorem dSP_init_28 : decode mSP_init.2.1 28 = .ok (.aload_n 0, 1) := by decide +kernel
theorem dSP_init_29 : decode mSP_init.2.1 29 = .ok (.iconst (-1), 1) := by decide +kernel
theorem dSP_init_30 : decode mSP_init.2.1 30 = .ok (.putfield 22, 3) := by decide +kernel
theorem dSP_init_33 : decode mSP_init.2.1 33 = .ok (.aload_n 0, 1) := by decide +kernel
theorem dSP_init_34 : decode mSP_init.2.1 34 = .ok (.iconst 5, 1) := by decide +kernel
theorem dSP_init_35 : decode mSP_init.2.1 35 = .ok (.newarray .int, 2) := by decide +kernel
theorem dSP_init_37 : decode mSP_init.2.1 37 = .ok (.putfield 26, 3) := by decide +kernel
theorem dSP_init_40 : decode mSP_init.2.1 40 = .ok (.return_, 1) := by decide +kernel
theorem dSP_giveName_0 : decode mSP_giveName.2.1 0 = .ok (.lload_n 2, 1) := by decide +kernel
theorem dSP_giveName_1 : decode mSP_giveName.2.1 1 = .ok (.invokestatic 29, 3) := by decide +kernel
theorem dSP_giveName_4 : decode mSP_giveName.2.1 4 = .ok (.lstore 4, 2) := by decide +kernel
theorem dSP_giveName_6 : decode mSP_giveName.2.1 6 = .ok (.lload 4, 2) := by decide +kernel
theorem dSP_giveName_8 : decode mSP_giveName.2.1 8 = .ok (.ldc2_w 33, 3) := by decide +kernel
theorem dSP_giveName_11 : decode mSP_giveName.2.1 11 = .ok (.lcmp, 1) := by decide +kernel
theorem dSP_giveName_12 : decode mSP_giveName.2.1 12 = .ok (.ifCond .eq 11, 3) := by decide +kernel
theorem dSP_giveName_15 : decode mSP_giveName.2.1 15 = .ok (.lload 4, 2) := by decide +kernel
theorem dSP_giveName_17 : decode mSP_giveName.2.1 17 = .ok (.invokestatic 35, 3) := by decide +kernel
theorem dSP_giveName_20 : decode mSP_giveName.2.1 20 = .ok (.ifCond .eq 5, 3) := by decide +kernel
theorem dSP_giveName_23 : decode mSP_giveName.2.1 23 = .ok (.iconst 0, 1) := by decide +kernel
theorem dSP_giveName_24 : decode mSP_giveName.2.1 24 = .ok (.ireturn, 1) := by decide +kernel
theorem dSP_giveName_25 : decode mSP_giveName.2.1 25 = .ok (.aload_n 0, 1) := by decide +kernel
theorem dSP_giveName_26 : decode mSP_giveName.2.1 26 = .ok (.lload 4, 2) := by decide +kernel
theorem dSP_giveName_28 : decode mSP_giveName.2.1 28 = .ok (.invokevirtual 39, 3) := by decide +kernel
theorem dSP_giveName_31 : decode mSP_giveName.2.1 31 = .ok (.istore 6, 2) := by decide +kernel
theorem dSP_giveName_33 : decode mSP_giveName.2.1 33 = .ok (.iload 6, 2) := by decide +kernel
theorem dSP_giveName_35 : decode mSP_giveName.2.1 35 = .ok (.iconst (-1), 1) := by decide +kernel
theorem dSP_giveName_36 : decode mSP_giveName.2.1 36 = .ok (.if_icmp .eq 11, 3) := by decide +kernel
theorem dSP_giveName_39 : decode mSP_giveName.2.1 39 = .ok (.iload 6, 2) := by decide +kernel
theorem dSP_giveName_41 : decode mSP_giveName.2.1 41 = .ok (.iload_n 1, 1) := by decide +kernel
theorem dSP_giveName_42 : decode mSP_giveName.2.1 42 = .ok (.if_icmp .eq 5, 3) := by decide +kernel
theorem dSP_giveName_45 : decode mSP_giveName.2.1 45 = .ok (.iconst 0, 1) := by decide +kernel
theorem dSP_giveName_46 : decode mSP_giveName.2.1 46 = .ok (.ireturn, 1) := by decide +kernel
theorem dSP_giveName_47 : decode mSP_giveName.2.1 47 = .ok (.aload_n 0, 1) := by decide +kernel
theorem dSP_giveName_48 : decode mSP_giveName.2.1 48 = .ok (.getfield 9, 3) := by decide +kernel
theorem dSP_giveName_51 : decode mSP_giveName.2.1 51 = .ok (.iload_n 1, 1) := by decide +kernel
theorem dSP_giveName_52 : decode mSP_giveName.2.1 52 = .ok (.lload 4, 2) := by decide +kernel
theorem dSP_giveName_54 : decode mSP_giveName.2.1 54 = .ok (.lastore, 1) := by decide +kernel
theorem dSP_giveName_55 : decode mSP_giveName.2.1 55 = .ok (.iconst 1, 1) := by decide +kernel
theorem dSP_giveName_56 : decode mSP_giveName.2.1 56 = .ok (.ireturn, 1) := by decide +kernel
theorem dSP_wordOf_0 : decode mSP_wordOf.2.1 0 = .ok (.lconst 0, 1) := by decide +kernel
theorem dSP_wordOf_1 : decode mSP_wordOf.2.1 1 = .ok (.lstore_n 2, 1) := by decide +kernel
theorem dSP_wordOf_2 : decode mSP_wordOf.2.1 2 = .ok (.iconst 0, 1) := by decide +kernel
theorem dSP_wordOf_3 : decode mSP_wordOf.2.1 3 = .ok (.istore 4, 2) := by decide +kernel
theorem dSP_wordOf_5 : decode mSP_wordOf.2.1 5 = .ok (.bipush 56, 2) := by decide +kernel
theorem dSP_wordOf_7 : decode mSP_wordOf.2.1 7 = .ok (.istore 5, 2) := by decide +kernel
theorem dSP_wordOf_9 : decode mSP_wordOf.2.1 9 = .ok (.iload 5, 2) := by decide +kernel
theorem dSP_wordOf_11 : decode mSP_wordOf.2.1 11 = .ok (.ifCond .lt 58, 3) := by decide +kernel
theorem dSP_wordOf_14 : decode mSP_wordOf.2.1 14 = .ok (.lload_n 0, 1) := by decide +kernel
theorem dSP_wordOf_15 : decode mSP_wordOf.2.1 15 = .ok (.iload 5, 2) := by decide +kernel
theorem dSP_wordOf_17 : decode mSP_wordOf.2.1 17 = .ok (.lshr, 1) := by decide +kernel
theorem dSP_wordOf_18 : decode mSP_wordOf.2.1 18 = .ok (.ldc2_w 43, 3) := by decide +kernel
theorem dSP_wordOf_21 : decode mSP_wordOf.2.1 21 = .ok (.land, 1) := by decide +kernel
theorem dSP_wordOf_22 : decode mSP_wordOf.2.1 22 = .ok (.l2i, 1) := by decide +kernel
theorem dSP_wordOf_23 : decode mSP_wordOf.2.1 23 = .ok (.istore 6, 2) := by decide +kernel
theorem dSP_wordOf_25 : decode mSP_wordOf.2.1 25 = .ok (.iload 6, 2) := by decide +kernel
theorem dSP_wordOf_27 : decode mSP_wordOf.2.1 27 = .ok (.ifCond .ne 6, 3) := by decide +kernel
theorem dSP_wordOf_30 : decode mSP_wordOf.2.1 30 = .ok (.goto 33, 3) := by decide +kernel
theorem dSP_wordOf_33 : decode mSP_wordOf.2.1 33 = .ok (.iload 6, 2) := by decide +kernel
theorem dSP_wordOf_35 : decode mSP_wordOf.2.1 35 = .ok (.bipush 97, 2) := by decide +kernel
theorem dSP_wordOf_37 : decode mSP_wordOf.2.1 37 = .ok (.if_icmp .lt 10, 3) := by decide +kernel
theorem dSP_wordOf_40 : decode mSP_wordOf.2.1 40 = .ok (.iload 6, 2) := by decide +kernel
theorem dSP_wordOf_42 : decode mSP_wordOf.2.1 42 = .ok (.bipush 122, 2) := by decide +kernel
theorem dSP_wordOf_44 : decode mSP_wordOf.2.1 44 = .ok (.if_icmp .le 7, 3) := by decide +kernel
theorem dSP_wordOf_47 : decode mSP_wordOf.2.1 47 = .ok (.ldc2_w 33, 3) := by decide +kernel
theorem dSP_wordOf_50 : decode mSP_wordOf.2.1 50 = .ok (.lreturn, 1) := by decide +kernel
theorem dSP_wordOf_51 : decode mSP_wordOf.2.1 51 = .ok (.lload_n 2, 1) := by decide +kernel
theorem dSP_wordOf_52 : decode mSP_wordOf.2.1 52 = .ok (.bipush 8, 2) := by decide +kernel
theorem dSP_wordOf_54 : decode mSP_wordOf.2.1 54 = .ok (.lshl, 1) := by decide +kernel
theorem dSP_wordOf_55 : decode mSP_wordOf.2.1 55 = .ok (.iload 6, 2) := by decide +kernel
theorem dSP_wordOf_57 : decode mSP_wordOf.2.1 57 = .ok (.i2l, 1) := by decide +kernel
theorem dSP_wordOf_58 : decode mSP_wordOf.2.1 58 = .ok (.lor, 1) := by decide +kernel
theorem dSP_wordOf_59 : decode mSP_wordOf.2.1 59 = .ok (.lstore_n 2, 1) := by decide +kernel
theorem dSP_wordOf_60 : decode mSP_wordOf.2.1 60 = .ok (.iinc 4 1, 3) := by decide +kernel
theorem dSP_wordOf_63 : decode mSP_wordOf.2.1 63 = .ok (.iinc 5 (-8), 3) := by decide +kernel
theorem dSP_wordOf_66 : decode mSP_wordOf.2.1 66 = .ok (.goto (-57), 3) := by decide +kernel
theorem dSP_wordOf_69 : decode mSP_wordOf.2.1 69 = .ok (.iload 4, 2) := by decide +kernel
theorem dSP_wordOf_71 : decode mSP_wordOf.2.1 71 = .ok (.iconst 1, 1) := by decide +kernel
theorem dSP_wordOf_72 : decode mSP_wordOf.2.1 72 = .ok (.if_icmp .lt 14, 3) := by decide +kernel
theorem dSP_wordOf_75 : decode mSP_wordOf.2.1 75 = .ok (.iload 4, 2) := by decide +kernel
theorem dSP_wordOf_77 : decode mSP_wordOf.2.1 77 = .ok (.bipush 6, 2) := by decide +kernel
theorem dSP_wordOf_79 : decode mSP_wordOf.2.1 79 = .ok (.if_icmp .gt 7, 3) := by decide +kernel
theorem dSP_wordOf_82 : decode mSP_wordOf.2.1 82 = .ok (.lload_n 2, 1) := by decide +kernel
theorem dSP_wordOf_83 : decode mSP_wordOf.2.1 83 = .ok (.goto 6, 3) := by decide +kernel
theorem dSP_wordOf_86 : decode mSP_wordOf.2.1 86 = .ok (.ldc2_w 33, 3) := by decide +kernel
theorem dSP_wordOf_89 : decode mSP_wordOf.2.1 89 = .ok (.lreturn, 1) := by decide +kernel
theorem dSP_isWord_0 : decode mSP_isWord.2.1 0 = .ok (.iconst 0, 1) := by decide +kernel
theorem dSP_isWord_1 : decode mSP_isWord.2.1 1 = .ok (.istore_n 2, 1) := by decide +kernel
theorem dSP_isWord_2 : decode mSP_isWord.2.1 2 = .ok (.iload_n 2, 1) := by decide +kernel
theorem dSP_isWord_3 : decode mSP_isWord.2.1 3 = .ok (.getstatic 45, 3) := by decide +kernel
theorem dSP_isWord_6 : decode mSP_isWord.2.1 6 = .ok (.arraylength, 1) := by decide +kernel
theorem dSP_isWord_7 : decode mSP_isWord.2.1 7 = .ok (.if_icmp .ge 21, 3) := by decide +kernel
theorem dSP_isWord_10 : decode mSP_isWord.2.1 10 = .ok (.getstatic 45, 3) := by decide +kernel
theorem dSP_isWord_13 : decode mSP_isWord.2.1 13 = .ok (.iload_n 2, 1) := by decide +kernel
theorem dSP_isWord_14 : decode mSP_isWord.2.1 14 = .ok (.laload, 1) := by decide +kernel
theorem dSP_isWord_15 : decode mSP_isWord.2.1 15 = .ok (.lload_n 0, 1) := by decide +kernel
theorem dSP_isWord_16 : decode mSP_isWord.2.1 16 = .ok (.lcmp, 1) := by decide +kernel
theorem dSP_isWord_17 : decode mSP_isWord.2.1 17 = .ok (.ifCond .ne 5, 3) := by decide +kernel
theorem dSP_isWord_20 : decode mSP_isWord.2.1 20 = .ok (.iconst 1, 1) := by decide +kernel
theorem dSP_isWord_21 : decode mSP_isWord.2.1 21 = .ok (.ireturn, 1) := by decide +kernel
theorem dSP_isWord_22 : decode mSP_isWord.2.1 22 = .ok (.iinc 2 1, 3) := by decide +kernel
theorem dSP_isWord_25 : decode mSP_isWord.2.1 25 = .ok (.goto (-23), 3) := by decide +kernel
theorem dSP_isWord_28 : decode mSP_isWord.2.1 28 = .ok (.iconst 0, 1) := by decide +kernel
theorem dSP_isWord_29 : decode mSP_isWord.2.1 29 = .ok (.ireturn, 1) := by decide +kernel
theorem dSP_thingNamed_0 : decode mSP_thingNamed.2.1 0 = .ok (.iconst 0, 1) := by decide +kernel
theorem dSP_thingNamed_1 : decode mSP_thingNamed.2.1 1 = .ok (.istore_n 3, 1) := by decide +kernel
theorem dSP_thingNamed_2 : decode mSP_thingNamed.2.1 2 = .ok (.iload_n 3, 1) := by decide +kernel
theorem dSP_thingNamed_3 : decode mSP_thingNamed.2.1 3 = .ok (.bipush 40, 2) := by decide +kernel
theorem dSP_thingNamed_5 : decode mSP_thingNamed.2.1 5 = .ok (.if_icmp .ge 28, 3) := by decide +kernel
theorem dSP_thingNamed_8 : decode mSP_thingNamed.2.1 8 = .ok (.lload_n 1, 1) := by decide +kernel
theorem dSP_thingNamed_9 : decode mSP_thingNamed.2.1 9 = .ok (.lconst 0, 1) := by decide +kernel
theorem dSP_thingNamed_10 : decode mSP_thingNamed.2.1 10 = .ok (.lcmp, 1) := by decide +kernel
theorem dSP_thingNamed_11 : decode mSP_thingNamed.2.1 11 = .ok (.ifCond .eq 16, 3) := by decide +kernel
theorem dSP_thingNamed_14 : decode mSP_thingNamed.2.1 14 = .ok (.aload_n 0, 1) := by decide +kernel
theorem dSP_thingNamed_15 : decode mSP_thingNamed.2.1 15 = .ok (.getfield 9, 3) := by decide +kernel
theorem dSP_thingNamed_18 : decode mSP_thingNamed.2.1 18 = .ok (.iload_n 3, 1) := by decide +kernel
theorem dSP_thingNamed_19 : decode mSP_thingNamed.2.1 19 = .ok (.laload, 1) := by decide +kernel
theorem dSP_thingNamed_20 : decode mSP_thingNamed.2.1 20 = .ok (.lload_n 1, 1) := by decide +kernel
theorem dSP_thingNamed_21 : decode mSP_thingNamed.2.1 21 = .ok (.lcmp, 1) := by decide +kernel
theorem dSP_thingNamed_22 : decode mSP_thingNamed.2.1 22 = .ok (.ifCond .ne 5, 3) := by decide +kernel
theorem dSP_thingNamed_25 : decode mSP_thingNamed.2.1 25 = .ok (.iload_n 3, 1) := by decide +kernel
theorem dSP_thingNamed_26 : decode mSP_thingNamed.2.1 26 = .ok (.ireturn, 1) := by decide +kernel
theorem dSP_thingNamed_27 : decode mSP_thingNamed.2.1 27 = .ok (.iinc 3 1, 3) := by decide +kernel
theorem dSP_thingNamed_30 : decode mSP_thingNamed.2.1 30 = .ok (.goto (-28), 3) := by decide +kernel
theorem dSP_thingNamed_33 : decode mSP_thingNamed.2.1 33 = .ok (.iconst (-1), 1) := by decide +kernel
theorem dSP_thingNamed_34 : decode mSP_thingNamed.2.1 34 = .ok (.ireturn, 1) := by decide +kernel
theorem dSP_show_0 : decode mSP_show.2.1 0 = .ok (.aload_n 0, 1) := by decide +kernel
theorem dSP_show_1 : decode mSP_show.2.1 1 = .ok (.iload_n 1, 1) := by decide +kernel
theorem dSP_show_2 : decode mSP_show.2.1 2 = .ok (.invokestatic 48, 3) := by decide +kernel
theorem dSP_show_5 : decode mSP_show.2.1 5 = .ok (.invokevirtual 54, 3) := by decide +kernel
theorem dSP_show_8 : decode mSP_show.2.1 8 = .ok (.ifCond .ne 25, 3) := by decide +kernel
theorem dSP_show_11 : decode mSP_show.2.1 11 = .ok (.aload_n 0, 1) := by decide +kernel
theorem dSP_show_12 : decode mSP_show.2.1 12 = .ok (.iload_n 1, 1) := by decide +kernel
theorem dSP_show_13 : decode mSP_show.2.1 13 = .ok (.invokestatic 58, 3) := by decide +kernel
theorem dSP_show_16 : decode mSP_show.2.1 16 = .ok (.invokevirtual 54, 3) := by decide +kernel
theorem dSP_show_19 : decode mSP_show.2.1 19 = .ok (.ifCond .ne 14, 3) := by decide +kernel
theorem dSP_show_22 : decode mSP_show.2.1 22 = .ok (.aload_n 0, 1) := by decide +kernel
theorem dSP_show_23 : decode mSP_show.2.1 23 = .ok (.iload_n 1, 1) := by decide +kernel
theorem dSP_show_24 : decode mSP_show.2.1 24 = .ok (.invokestatic 61, 3) := by decide +kernel
theorem dSP_show_27 : decode mSP_show.2.1 27 = .ok (.invokevirtual 54, 3) := by decide +kernel
theorem dSP_show_30 : decode mSP_show.2.1 30 = .ok (.ifCond .eq 5, 3) := by decide +kernel
theorem dSP_show_33 : decode mSP_show.2.1 33 = .ok (.iconst 0, 1) := by decide +kernel
theorem dSP_show_34 : decode mSP_show.2.1 34 = .ok (.ireturn, 1) := by decide +kernel
theorem dSP_show_35 : decode mSP_show.2.1 35 = .ok (.aload_n 0, 1) := by decide +kernel
theorem dSP_show_36 : decode mSP_show.2.1 36 = .ok (.getfield 26, 3) := by decide +kernel
theorem dSP_show_39 : decode mSP_show.2.1 39 = .ok (.iconst 1, 1) := by decide +kernel
theorem dSP_show_40 : decode mSP_show.2.1 40 = .ok (.iload_n 1, 1) := by decide +kernel
theorem dSP_show_41 : decode mSP_show.2.1 41 = .ok (.invokestatic 48, 3) := by decide +kernel
theorem dSP_show_44 : decode mSP_show.2.1 44 = .ok (.iastore, 1) := by decide +kernel
theorem dSP_show_45 : decode mSP_show.2.1 45 = .ok (.aload_n 0, 1) := by decide +kernel
theorem dSP_show_46 : decode mSP_show.2.1 46 = .ok (.getfield 26, 3) := by decide +kernel
theorem dSP_show_49 : decode mSP_show.2.1 49 = .ok (.iconst 2, 1) := by decide +kernel
theorem dSP_show_50 : decode mSP_show.2.1 50 = .ok (.iload_n 1, 1) := by decide +kernel
theorem dSP_show_51 : decode mSP_show.2.1 51 = .ok (.invokestatic 58, 3) := by decide +kernel
theorem dSP_show_54 : decode mSP_show.2.1 54 = .ok (.iastore, 1) := by decide +kernel
theorem dSP_show_55 : decode mSP_show.2.1 55 = .ok (.aload_n 0, 1) := by decide +kernel
theorem dSP_show_56 : decode mSP_show.2.1 56 = .ok (.getfield 26, 3) := by decide +kernel
theorem dSP_show_59 : decode mSP_show.2.1 59 = .ok (.iconst 3, 1) := by decide +kernel
theorem dSP_show_60 : decode mSP_show.2.1 60 = .ok (.iload_n 1, 1) := by decide +kernel
theorem dSP_show_61 : decode mSP_show.2.1 61 = .ok (.invokestatic 61, 3) := by decide +kernel
theorem dSP_show_64 : decode mSP_show.2.1 64 = .ok (.iastore, 1) := by decide +kernel
theorem dSP_show_65 : decode mSP_show.2.1 65 = .ok (.aload_n 0, 1) := by decide +kernel
theorem dSP_show_66 : decode mSP_show.2.1 66 = .ok (.getfield 26, 3) := by decide +kernel
theorem dSP_show_69 : decode mSP_show.2.1 69 = .ok (.iconst 4, 1) := by decide +kernel
theorem dSP_show_70 : decode mSP_show.2.1 70 = .ok (.iload_n 1, 1) := by decide +kernel
theorem dSP_show_71 : decode mSP_show.2.1 71 = .ok (.invokestatic 64, 3) := by decide +kernel
theorem dSP_show_74 : decode mSP_show.2.1 74 = .ok (.iastore, 1) := by decide +kernel
theorem dSP_show_75 : decode mSP_show.2.1 75 = .ok (.aload_n 0, 1) := by decide +kernel
theorem dSP_show_76 : decode mSP_show.2.1 76 = .ok (.iconst 0, 1) := by decide +kernel
theorem dSP_show_77 : decode mSP_show.2.1 77 = .ok (.putfield 67, 3) := by decide +kernel
theorem dSP_show_80 : decode mSP_show.2.1 80 = .ok (.iload_n 1, 1) := by decide +kernel
theorem dSP_show_81 : decode mSP_show.2.1 81 = .ok (.invokestatic 70, 3) := by decide +kernel
theorem dSP_show_84 : decode mSP_show.2.1 84 = .ok (.iconst (-1), 1) := by decide +kernel
theorem dSP_show_85 : decode mSP_show.2.1 85 = .ok (.if_icmp .eq 21, 3) := by decide +kernel
theorem dSP_show_88 : decode mSP_show.2.1 88 = .ok (.aload_n 0, 1) := by decide +kernel
theorem dSP_show_89 : decode mSP_show.2.1 89 = .ok (.bipush 48, 2) := by decide +kernel
theorem dSP_show_91 : decode mSP_show.2.1 91 = .ok (.iload_n 1, 1) := by decide +kernel
theorem dSP_show_92 : decode mSP_show.2.1 92 = .ok (.invokestatic 70, 3) := by decide +kernel
theorem dSP_show_95 : decode mSP_show.2.1 95 = .ok (.iadd, 1) := by decide +kernel
theorem dSP_show_96 : decode mSP_show.2.1 96 = .ok (.invokevirtual 73, 3) := by decide +kernel
theorem dSP_show_99 : decode mSP_show.2.1 99 = .ok (.aload_n 0, 1) := by decide +kernel
theorem dSP_show_100 : decode mSP_show.2.1 100 = .ok (.ldc2_w 77, 3) := by decide +kernel
theorem dSP_show_103 : decode mSP_show.2.1 103 = .ok (.invokevirtual 79, 3) := by decide +kernel
theorem dSP_show_106 : decode mSP_show.2.1 106 = .ok (.iconst 0, 1) := by decide +kernel
theorem dSP_show_107 : decode mSP_show.2.1 107 = .ok (.istore_n 2, 1) := by decide +kernel
theorem dSP_show_108 : decode mSP_show.2.1 108 = .ok (.iload_n 2, 1) := by decide +kernel
theorem dSP_show_109 : decode mSP_show.2.1 109 = .ok (.bipush 7, 2) := by decide +kernel
theorem dSP_show_111 : decode mSP_show.2.1 111 = .ok (.if_icmp .ge 85, 3) := by decide +kernel
theorem dSP_show_114 : decode mSP_show.2.1 114 = .ok (.getstatic 83, 3) := by decide +kernel
theorem dSP_show_117 : decode mSP_show.2.1 117 = .ok (.bipush 7, 2) := by decide +kernel
theorem dSP_show_119 : decode mSP_show.2.1 119 = .ok (.iload_n 1, 1) := by decide +kernel
theorem dSP_show_120 : decode mSP_show.2.1 120 = .ok (.invokestatic 86, 3) := by decide +kernel
theorem dSP_show_123 : decode mSP_show.2.1 123 = .ok (.imul, 1) := by decide +kernel
theorem dSP_show_124 : decode mSP_show.2.1 124 = .ok (.iload_n 2, 1) := by decide +kernel
theorem dSP_show_125 : decode mSP_show.2.1 125 = .ok (.iadd, 1) := by decide +kernel
theorem dSP_show_126 : decode mSP_show.2.1 126 = .ok (.laload, 1) := by decide +kernel
theorem dSP_show_127 : decode mSP_show.2.1 127 = .ok (.lstore_n 3, 1) := by decide +kernel
theorem dSP_show_128 : decode mSP_show.2.1 128 = .ok (.lload_n 3, 1) := by decide +kernel
theorem dSP_show_129 : decode mSP_show.2.1 129 = .ok (.lconst 0, 1) := by decide +kernel
theorem dSP_show_130 : decode mSP_show.2.1 130 = .ok (.lcmp, 1) := by decide +kernel
theorem dSP_show_131 : decode mSP_show.2.1 131 = .ok (.ifCond .ne 6, 3) := by decide +kernel
theorem dSP_show_134 : decode mSP_show.2.1 134 = .ok (.goto 62, 3) := by decide +kernel
theorem dSP_show_137 : decode mSP_show.2.1 137 = .ok (.lload_n 3, 1) := by decide +kernel
theorem dSP_show_138 : decode mSP_show.2.1 138 = .ok (.ldc2_w 89, 3) := by decide +kernel
theorem dSP_show_141 : decode mSP_show.2.1 141 = .ok (.lcmp, 1) := by decide +kernel
theorem dSP_show_142 : decode mSP_show.2.1 142 = .ok (.ifCond .ne 20, 3) := by decide +kernel
theorem dSP_show_145 : decode mSP_show.2.1 145 = .ok (.aload_n 0, 1) := by decide +kernel
theorem dSP_show_146 : decode mSP_show.2.1 146 = .ok (.bipush 48, 2) := by decide +kernel
theorem dSP_show_148 : decode mSP_show.2.1 148 = .ok (.aload_n 0, 1) := by decide +kernel
theorem dSP_show_149 : decode mSP_show.2.1 149 = .ok (.getfield 26, 3) := by decide +kernel
theorem dSP_show_152 : decode mSP_show.2.1 152 = .ok (.iconst 4, 1) := by decide +kernel
theorem dSP_show_153 : decode mSP_show.2.1 153 = .ok (.iaload, 1) := by decide +kernel
theorem dSP_show_154 : decode mSP_show.2.1 154 = .ok (.iadd, 1) := by decide +kernel
theorem dSP_show_155 : decode mSP_show.2.1 155 = .ok (.i2l, 1) := by decide +kernel
theorem dSP_show_156 : decode mSP_show.2.1 156 = .ok (.invokevirtual 79, 3) := by decide +kernel
theorem dSP_show_159 : decode mSP_show.2.1 159 = .ok (.goto 31, 3) := by decide +kernel
theorem dSP_show_162 : decode mSP_show.2.1 162 = .ok (.aload_n 0, 1) := by decide +kernel
theorem dSP_show_163 : decode mSP_show.2.1 163 = .ok (.lload_n 3, 1) := by decide +kernel
theorem dSP_show_164 : decode mSP_show.2.1 164 = .ok (.ldc2_w 89, 3) := by decide +kernel
theorem dSP_show_167 : decode mSP_show.2.1 167 = .ok (.lcmp, 1) := by decide +kernel
theorem dSP_show_168 : decode mSP_show.2.1 168 = .ok (.ifCond .ge 18, 3) := by decide +kernel
theorem dSP_show_171 : decode mSP_show.2.1 171 = .ok (.aload_n 0, 1) := by decide +kernel
theorem dSP_show_172 : decode mSP_show.2.1 172 = .ok (.getfield 9, 3) := by decide +kernel
theorem dSP_show_175 : decode mSP_show.2.1 175 = .ok (.aload_n 0, 1) := by decide +kernel
theorem dSP_show_176 : decode mSP_show.2.1 176 = .ok (.getfield 26, 3) := by decide +kernel
theorem dSP_show_179 : decode mSP_show.2.1 179 = .ok (.lload_n 3, 1) := by decide +kernel
theorem dSP_show_180 : decode mSP_show.2.1 180 = .ok (.l2i, 1) := by decide +kernel
theorem dSP_show_181 : decode mSP_show.2.1 181 = .ok (.iaload, 1) := by decide +kernel
theorem dSP_show_182 : decode mSP_show.2.1 182 = .ok (.laload, 1) := by decide +kernel
theorem dSP_show_183 : decode mSP_show.2.1 183 = .ok (.goto 4, 3) := by decide +kernel
theorem dSP_show_186 : decode mSP_show.2.1 186 = .ok (.lload_n 3, 1) := by decide +kernel
theorem dSP_show_187 : decode mSP_show.2.1 187 = .ok (.invokevirtual 79, 3) := by decide +kernel
theorem dSP_show_190 : decode mSP_show.2.1 190 = .ok (.iinc 2 1, 3) := by decide +kernel
theorem dSP_show_193 : decode mSP_show.2.1 193 = .ok (.goto (-85), 3) := by decide +kernel
theorem dSP_show_196 : decode mSP_show.2.1 196 = .ok (.aload_n 0, 1) := by decide +kernel
theorem dSP_show_197 : decode mSP_show.2.1 197 = .ok (.getfield 67, 3) := by decide +kernel
theorem dSP_show_200 : decode mSP_show.2.1 200 = .ok (.ireturn, 1) := by decide +kernel
theorem dSP_lacksName_0 : decode mSP_lacksName.2.1 0 = .ok (.iload_n 1, 1) := by decide +kernel
theorem dSP_lacksName_1 : decode mSP_lacksName.2.1 1 = .ok (.ifCond .eq 18, 3) := by decide +kernel
theorem dSP_lacksName_4 : decode mSP_lacksName.2.1 4 = .ok (.aload_n 0, 1) := by decide +kernel
theorem dSP_lacksName_5 : decode mSP_lacksName.2.1 5 = .ok (.getfield 9, 3) := by decide +kernel
theorem dSP_lacksName_8 : decode mSP_lacksName.2.1 8 = .ok (.iload_n 1, 1) := by decide +kernel
theorem dSP_lacksName_9 : decode mSP_lacksName.2.1 9 = .ok (.laload, 1) := by decide +kernel
theorem dSP_lacksName_10 : decode mSP_lacksName.2.1 10 = .ok (.lconst 0, 1) := by decide +kernel
theorem dSP_lacksName_11 : decode mSP_lacksName.2.1 11 = .ok (.lcmp, 1) := by decide +kernel
theorem dSP_lacksName_12 : decode mSP_lacksName.2.1 12 = .ok (.ifCond .ne 7, 3) := by decide +kernel
theorem dSP_lacksName_15 : decode mSP_lacksName.2.1 15 = .ok (.iconst 1, 1) := by decide +kernel
theorem dSP_lacksName_16 : decode mSP_lacksName.2.1 16 = .ok (.goto 4, 3) := by decide +kernel
theorem dSP_lacksName_19 : decode mSP_lacksName.2.1 19 = .ok (.iconst 0, 1) := by decide +kernel
theorem dSP_lacksName_20 : decode mSP_lacksName.2.1 20 = .ok (.ireturn, 1) := by decide +kernel
theorem dSP_put_0 : decode mSP_put.2.1 0 = .ok (.aload_n 0, 1) := by decide +kernel
theorem dSP_put_1 : decode mSP_put.2.1 1 = .ok (.getfield 67, 3) := by decide +kernel
theorem dSP_put_4 : decode mSP_put.2.1 4 = .ok (.bipush 60, 2) := by decide +kernel
theorem dSP_put_6 : decode mSP_put.2.1 6 = .ok (.if_icmp .ge 23, 3) := by decide +kernel
theorem dSP_put_9 : decode mSP_put.2.1 9 = .ok (.aload_n 0, 1) := by decide +kernel
theorem dSP_put_10 : decode mSP_put.2.1 10 = .ok (.getfield 19, 3) := by decide +kernel
theorem dSP_put_13 : decode mSP_put.2.1 13 = .ok (.aload_n 0, 1) := by decide +kernel
theorem dSP_put_14 : decode mSP_put.2.1 14 = .ok (.getfield 67, 3) := by decide +kernel
theorem dSP_put_17 : decode mSP_put.2.1 17 = .ok (.iload_n 1, 1) := by decide +kernel
theorem dSP_put_18 : decode mSP_put.2.1 18 = .ok (.iastore, 1) := by decide +kernel
theorem dSP_put_19 : decode mSP_put.2.1 19 = .ok (.aload_n 0, 1) := by decide +kernel
theorem dSP_put_20 : decode mSP_put.2.1 20 = .ok (.dup, 1) := by decide +kernel
theorem dSP_put_21 : decode mSP_put.2.1 21 = .ok (.getfield 67, 3) := by decide +kernel
theorem dSP_put_24 : decode mSP_put.2.1 24 = .ok (.iconst 1, 1) := by decide +kernel
theorem dSP_put_25 : decode mSP_put.2.1 25 = .ok (.iadd, 1) := by decide +kernel
theorem dSP_put_26 : decode mSP_put.2.1 26 = .ok (.putfield 67, 3) := by decide +kernel
theorem dSP_put_29 : decode mSP_put.2.1 29 = .ok (.return_, 1) := by decide +kernel
theorem dSP_putWord_0 : decode mSP_putWord.2.1 0 = .ok (.aload_n 0, 1) := by decide +kernel
theorem dSP_putWord_1 : decode mSP_putWord.2.1 1 = .ok (.getfield 67, 3) := by decide +kernel
theorem dSP_putWord_4 : decode mSP_putWord.2.1 4 = .ok (.ifCond .le 9, 3) := by decide +kernel
theorem dSP_putWord_7 : decode mSP_putWord.2.1 7 = .ok (.aload_n 0, 1) := by decide +kernel
theorem dSP_putWord_8 : decode mSP_putWord.2.1 8 = .ok (.bipush 32, 2) := by decide +kernel
theorem dSP_putWord_10 : decode mSP_putWord.2.1 10 = .ok (.invokevirtual 73, 3) := by decide +kernel
theorem dSP_putWord_13 : decode mSP_putWord.2.1 13 = .ok (.bipush 56, 2) := by decide +kernel
theorem dSP_putWord_15 : decode mSP_putWord.2.1 15 = .ok (.istore_n 3, 1) := by decide +kernel
theorem dSP_putWord_16 : decode mSP_putWord.2.1 16 = .ok (.iload_n 3, 1) := by decide +kernel
theorem dSP_putWord_17 : decode mSP_putWord.2.1 17 = .ok (.ifCond .lt 30, 3) := by decide +kernel
theorem dSP_putWord_20 : decode mSP_putWord.2.1 20 = .ok (.lload_n 1, 1) := by decide +kernel
theorem dSP_putWord_21 : decode mSP_putWord.2.1 21 = .ok (.iload_n 3, 1) := by decide +kernel
theorem dSP_putWord_22 : decode mSP_putWord.2.1 22 = .ok (.lshr, 1) := by decide +kernel
theorem dSP_putWord_23 : decode mSP_putWord.2.1 23 = .ok (.ldc2_w 43, 3) := by decide +kernel
theorem dSP_putWord_26 : decode mSP_putWord.2.1 26 = .ok (.land, 1) := by decide +kernel
theorem dSP_putWord_27 : decode mSP_putWord.2.1 27 = .ok (.l2i, 1) := by decide +kernel
theorem dSP_putWord_28 : decode mSP_putWord.2.1 28 = .ok (.istore 4, 2) := by decide +kernel
theorem dSP_putWord_30 : decode mSP_putWord.2.1 30 = .ok (.iload 4, 2) := by decide +kernel
theorem dSP_putWord_32 : decode mSP_putWord.2.1 32 = .ok (.ifCond .eq 9, 3) := by decide +kernel
theorem dSP_putWord_35 : decode mSP_putWord.2.1 35 = .ok (.aload_n 0, 1) := by decide +kernel
theorem dSP_putWord_36 : decode mSP_putWord.2.1 36 = .ok (.iload 4, 2) := by decide +kernel
theorem dSP_putWord_38 : decode mSP_putWord.2.1 38 = .ok (.invokevirtual 73, 3) := by decide +kernel
theorem dSP_putWord_41 : decode mSP_putWord.2.1 41 = .ok (.iinc 3 (-8), 3) := by decide +kernel
theorem dSP_putWord_44 : decode mSP_putWord.2.1 44 = .ok (.goto (-28), 3) := by decide +kernel
theorem dSP_putWord_47 : decode mSP_putWord.2.1 47 = .ok (.return_, 1) := by decide +kernel
theorem dSP_append_0 : decode mSP_append.2.1 0 = .ok (.iconst 0, 1) := by decide +kernel
theorem dSP_append_1 : decode mSP_append.2.1 1 = .ok (.istore_n 3, 1) := by decide +kernel
theorem dSP_append_2 : decode mSP_append.2.1 2 = .ok (.bipush 56, 2) := by decide +kernel
theorem dSP_append_4 : decode mSP_append.2.1 4 = .ok (.istore 4, 2) := by decide +kernel
theorem dSP_append_6 : decode mSP_append.2.1 6 = .ok (.iload 4, 2) := by decide +kernel
theorem dSP_append_8 : decode mSP_append.2.1 8 = .ok (.ifCond .lt 54, 3) := by decide +kernel
theorem dSP_append_11 : decode mSP_append.2.1 11 = .ok (.lload_n 1, 1) := by decide +kernel
theorem dSP_append_12 : decode mSP_append.2.1 12 = .ok (.iload 4, 2) := by decide +kernel
theorem dSP_append_14 : decode mSP_append.2.1 14 = .ok (.lshr, 1) := by decide +kernel
theorem dSP_append_15 : decode mSP_append.2.1 15 = .ok (.ldc2_w 43, 3) := by decide +kernel
theorem dSP_append_18 : decode mSP_append.2.1 18 = .ok (.land, 1) := by decide +kernel
theorem dSP_append_19 : decode mSP_append.2.1 19 = .ok (.l2i, 1) := by decide +kernel
theorem dSP_append_20 : decode mSP_append.2.1 20 = .ok (.istore 5, 2) := by decide +kernel
theorem dSP_append_22 : decode mSP_append.2.1 22 = .ok (.iload 5, 2) := by decide +kernel
theorem dSP_append_24 : decode mSP_append.2.1 24 = .ok (.ifCond .eq 19, 3) := by decide +kernel
theorem dSP_append_27 : decode mSP_append.2.1 27 = .ok (.iload 5, 2) := by decide +kernel
theorem dSP_append_29 : decode mSP_append.2.1 29 = .ok (.bipush 32, 2) := by decide +kernel
theorem dSP_append_31 : decode mSP_append.2.1 31 = .ok (.if_icmp .lt 10, 3) := by decide +kernel
theorem dSP_append_34 : decode mSP_append.2.1 34 = .ok (.iload 5, 2) := by decide +kernel
theorem dSP_append_36 : decode mSP_append.2.1 36 = .ok (.bipush 126, 2) := by decide +kernel
theorem dSP_append_38 : decode mSP_append.2.1 38 = .ok (.if_icmp .le 5, 3) := by decide +kernel
theorem dSP_append_41 : decode mSP_append.2.1 41 = .ok (.iconst (-1), 1) := by decide +kernel
theorem dSP_append_42 : decode mSP_append.2.1 42 = .ok (.ireturn, 1) := by decide +kernel
theorem dSP_append_43 : decode mSP_append.2.1 43 = .ok (.iload_n 3, 1) := by decide +kernel
theorem dSP_append_44 : decode mSP_append.2.1 44 = .ok (.iload 5, 2) := by decide +kernel
theorem dSP_append_46 : decode mSP_append.2.1 46 = .ok (.ifCond .ne 7, 3) := by decide +kernel
theorem dSP_append_49 : decode mSP_append.2.1 49 = .ok (.iconst 0, 1) := by decide +kernel
theorem dSP_append_50 : decode mSP_append.2.1 50 = .ok (.goto 4, 3) := by decide +kernel
theorem dSP_append_53 : decode mSP_append.2.1 53 = .ok (.iconst 1, 1) := by decide +kernel
theorem dSP_append_54 : decode mSP_append.2.1 54 = .ok (.iadd, 1) := by decide +kernel
theorem dSP_append_55 : decode mSP_append.2.1 55 = .ok (.istore_n 3, 1) := by decide +kernel
theorem dSP_append_56 : decode mSP_append.2.1 56 = .ok (.iinc 4 (-8), 3) := by decide +kernel
theorem dSP_append_59 : decode mSP_append.2.1 59 = .ok (.goto (-53), 3) := by decide +kernel
theorem dSP_append_62 : decode mSP_append.2.1 62 = .ok (.aload_n 0, 1) := by decide +kernel
theorem dSP_append_63 : decode mSP_append.2.1 63 = .ok (.getfield 91, 3) := by decide +kernel
theorem dSP_append_66 : decode mSP_append.2.1 66 = .ok (.iload_n 3, 1) := by decide +kernel
theorem dSP_append_67 : decode mSP_append.2.1 67 = .ok (.iadd, 1) := by decide +kernel
theorem dSP_append_68 : decode mSP_append.2.1 68 = .ok (.bipush 60, 2) := by decide +kernel
theorem dSP_append_70 : decode mSP_append.2.1 70 = .ok (.if_icmp .le 5, 3) := by decide +kernel
theorem dSP_append_73 : decode mSP_append.2.1 73 = .ok (.iconst (-1), 1) := by decide +kernel
theorem dSP_append_74 : decode mSP_append.2.1 74 = .ok (.ireturn, 1) := by decide +kernel
theorem dSP_append_75 : decode mSP_append.2.1 75 = .ok (.bipush 56, 2) := by decide +kernel
theorem dSP_append_77 : decode mSP_append.2.1 77 = .ok (.istore 4, 2) := by decide +kernel
theorem dSP_append_79 : decode mSP_append.2.1 79 = .ok (.iload 4, 2) := by decide +kernel
theorem dSP_append_81 : decode mSP_append.2.1 81 = .ok (.ifCond .lt 46, 3) := by decide +kernel
theorem dSP_append_84 : decode mSP_append.2.1 84 = .ok (.lload_n 1, 1) := by decide +kernel
theorem dSP_append_85 : decode mSP_append.2.1 85 = .ok (.iload 4, 2) := by decide +kernel
theorem dSP_append_87 : decode mSP_append.2.1 87 = .ok (.lshr, 1) := by decide +kernel
theorem dSP_append_88 : decode mSP_append.2.1 88 = .ok (.ldc2_w 43, 3) := by decide +kernel
theorem dSP_append_91 : decode mSP_append.2.1 91 = .ok (.land, 1) := by decide +kernel
theorem dSP_append_92 : decode mSP_append.2.1 92 = .ok (.l2i, 1) := by decide +kernel
theorem dSP_append_93 : decode mSP_append.2.1 93 = .ok (.istore 5, 2) := by decide +kernel
theorem dSP_append_95 : decode mSP_append.2.1 95 = .ok (.iload 5, 2) := by decide +kernel
theorem dSP_append_97 : decode mSP_append.2.1 97 = .ok (.ifCond .eq 24, 3) := by decide +kernel
theorem dSP_append_100 : decode mSP_append.2.1 100 = .ok (.aload_n 0, 1) := by decide +kernel
theorem dSP_append_101 : decode mSP_append.2.1 101 = .ok (.getfield 15, 3) := by decide +kernel
theorem dSP_append_104 : decode mSP_append.2.1 104 = .ok (.aload_n 0, 1) := by decide +kernel
theorem dSP_append_105 : decode mSP_append.2.1 105 = .ok (.getfield 91, 3) := by decide +kernel
theorem dSP_append_108 : decode mSP_append.2.1 108 = .ok (.iload 5, 2) := by decide +kernel
theorem dSP_append_110 : decode mSP_append.2.1 110 = .ok (.iastore, 1) := by decide +kernel
theorem dSP_append_111 : decode mSP_append.2.1 111 = .ok (.aload_n 0, 1) := by decide +kernel
theorem dSP_append_112 : decode mSP_append.2.1 112 = .ok (.dup, 1) := by decide +kernel
theorem dSP_append_113 : decode mSP_append.2.1 113 = .ok (.getfield 91, 3) := by decide +kernel
theorem dSP_append_116 : decode mSP_append.2.1 116 = .ok (.iconst 1, 1) := by decide +kernel
theorem dSP_append_117 : decode mSP_append.2.1 117 = .ok (.iadd, 1) := by decide +kernel
theorem dSP_append_118 : decode mSP_append.2.1 118 = .ok (.putfield 91, 3) := by decide +kernel
theorem dSP_append_121 : decode mSP_append.2.1 121 = .ok (.iinc 4 (-8), 3) := by decide +kernel
theorem dSP_append_124 : decode mSP_append.2.1 124 = .ok (.goto (-45), 3) := by decide +kernel
theorem dSP_append_127 : decode mSP_append.2.1 127 = .ok (.aload_n 0, 1) := by decide +kernel
theorem dSP_append_128 : decode mSP_append.2.1 128 = .ok (.getfield 91, 3) := by decide +kernel
theorem dSP_append_131 : decode mSP_append.2.1 131 = .ok (.ireturn, 1) := by decide +kernel
theorem dSP_parse_0 : decode mSP_parse.2.1 0 = .ok (.aload_n 0, 1) := by decide +kernel
theorem dSP_parse_1 : decode mSP_parse.2.1 1 = .ok (.aload_n 0, 1) := by decide +kernel
theorem dSP_parse_2 : decode mSP_parse.2.1 2 = .ok (.getfield 91, 3) := by decide +kernel
theorem dSP_parse_5 : decode mSP_parse.2.1 5 = .ok (.putfield 94, 3) := by decide +kernel
theorem dSP_parse_8 : decode mSP_parse.2.1 8 = .ok (.aload_n 0, 1) := by decide +kernel
theorem dSP_parse_9 : decode mSP_parse.2.1 9 = .ok (.iconst 0, 1) := by decide +kernel
theorem dSP_parse_10 : decode mSP_parse.2.1 10 = .ok (.putfield 91, 3) := by decide +kernel
theorem dSP_parse_13 : decode mSP_parse.2.1 13 = .ok (.aload_n 0, 1) := by decide +kernel
theorem dSP_parse_14 : decode mSP_parse.2.1 14 = .ok (.iconst 0, 1) := by decide +kernel
theorem dSP_parse_15 : decode mSP_parse.2.1 15 = .ok (.putfield 97, 3) := by decide +kernel
theorem dSP_parse_18 : decode mSP_parse.2.1 18 = .ok (.aload_n 0, 1) := by decide +kernel
theorem dSP_parse_19 : decode mSP_parse.2.1 19 = .ok (.iconst (-1), 1) := by decide +kernel
theorem dSP_parse_20 : decode mSP_parse.2.1 20 = .ok (.putfield 22, 3) := by decide +kernel
theorem dSP_parse_23 : decode mSP_parse.2.1 23 = .ok (.iconst 0, 1) := by decide +kernel
theorem dSP_parse_24 : decode mSP_parse.2.1 24 = .ok (.istore_n 1, 1) := by decide +kernel
theorem dSP_parse_25 : decode mSP_parse.2.1 25 = .ok (.iload_n 1, 1) := by decide +kernel
theorem dSP_parse_26 : decode mSP_parse.2.1 26 = .ok (.iconst 5, 1) := by decide +kernel
theorem dSP_parse_27 : decode mSP_parse.2.1 27 = .ok (.if_icmp .ge 16, 3) := by decide +kernel
theorem dSP_parse_30 : decode mSP_parse.2.1 30 = .ok (.aload_n 0, 1) := by decide +kernel
theorem dSP_parse_31 : decode mSP_parse.2.1 31 = .ok (.getfield 26, 3) := by decide +kernel
theorem dSP_parse_34 : decode mSP_parse.2.1 34 = .ok (.iload_n 1, 1) := by decide +kernel
theorem dSP_parse_35 : decode mSP_parse.2.1 35 = .ok (.iconst 0, 1) := by decide +kernel
theorem dSP_parse_36 : decode mSP_parse.2.1 36 = .ok (.iastore, 1) := by decide +kernel
theorem dSP_parse_37 : decode mSP_parse.2.1 37 = .ok (.iinc 1 1, 3) := by decide +kernel
theorem dSP_parse_40 : decode mSP_parse.2.1 40 = .ok (.goto (-15), 3) := by decide +kernel
theorem dSP_parse_43 : decode mSP_parse.2.1 43 = .ok (.aload_n 0, 1) := by decide +kernel
theorem dSP_parse_44 : decode mSP_parse.2.1 44 = .ok (.invokevirtual 100, 3) := by decide +kernel
theorem dSP_parse_47 : decode mSP_parse.2.1 47 = .ok (.istore_n 1, 1) := by decide +kernel
theorem dSP_parse_48 : decode mSP_parse.2.1 48 = .ok (.sipush 1023, 3) := by decide +kernel
theorem dSP_parse_51 : decode mSP_parse.2.1 51 = .ok (.istore_n 2, 1) := by decide +kernel
theorem dSP_parse_52 : decode mSP_parse.2.1 52 = .ok (.iconst 0, 1) := by decide +kernel
theorem dSP_parse_53 : decode mSP_parse.2.1 53 = .ok (.istore_n 3, 1) := by decide +kernel
theorem dSP_parse_54 : decode mSP_parse.2.1 54 = .ok (.iload_n 3, 1) := by decide +kernel
theorem dSP_parse_55 : decode mSP_parse.2.1 55 = .ok (.bipush 7, 2) := by decide +kernel
theorem dSP_parse_57 : decode mSP_parse.2.1 57 = .ok (.if_icmp .ge 69, 3) := by decide +kernel
theorem dSP_parse_60 : decode mSP_parse.2.1 60 = .ok (.aload_n 0, 1) := by decide +kernel
theorem dSP_parse_61 : decode mSP_parse.2.1 61 = .ok (.getfield 22, 3) := by decide +kernel
theorem dSP_parse_64 : decode mSP_parse.2.1 64 = .ok (.iconst (-1), 1) := by decide +kernel
theorem dSP_parse_65 : decode mSP_parse.2.1 65 = .ok (.if_icmp .ne 61, 3) := by decide +kernel
theorem dSP_parse_68 : decode mSP_parse.2.1 68 = .ok (.aload_n 0, 1) := by decide +kernel
theorem dSP_parse_69 : decode mSP_parse.2.1 69 = .ok (.getfield 97, 3) := by decide +kernel
theorem dSP_parse_72 : decode mSP_parse.2.1 72 = .ok (.aload_n 0, 1) := by decide +kernel
theorem dSP_parse_73 : decode mSP_parse.2.1 73 = .ok (.getfield 94, 3) := by decide +kernel
theorem dSP_parse_76 : decode mSP_parse.2.1 76 = .ok (.if_icmp .le 11, 3) := by decide +kernel
theorem dSP_parse_79 : decode mSP_parse.2.1 79 = .ok (.aload_n 0, 1) := by decide +kernel
theorem dSP_parse_80 : decode mSP_parse.2.1 80 = .ok (.iload_n 2, 1) := by decide +kernel
theorem dSP_parse_81 : decode mSP_parse.2.1 81 = .ok (.iload_n 3, 1) := by decide +kernel
theorem dSP_parse_82 : decode mSP_parse.2.1 82 = .ok (.iload_n 1, 1) := by decide +kernel
theorem dSP_parse_83 : decode mSP_parse.2.1 83 = .ok (.invokevirtual 104, 3) := by decide +kernel
theorem dSP_parse_86 : decode mSP_parse.2.1 86 = .ok (.ireturn, 1) := by decide +kernel
theorem dSP_parse_87 : decode mSP_parse.2.1 87 = .ok (.aload_n 0, 1) := by decide +kernel
theorem dSP_parse_88 : decode mSP_parse.2.1 88 = .ok (.iload_n 2, 1) := by decide +kernel
theorem dSP_parse_89 : decode mSP_parse.2.1 89 = .ok (.iload_n 3, 1) := by decide +kernel
theorem dSP_parse_90 : decode mSP_parse.2.1 90 = .ok (.aload_n 0, 1) := by decide +kernel
theorem dSP_parse_91 : decode mSP_parse.2.1 91 = .ok (.invokevirtual 108, 3) := by decide +kernel
theorem dSP_parse_94 : decode mSP_parse.2.1 94 = .ok (.invokevirtual 112, 3) := by decide +kernel
theorem dSP_parse_97 : decode mSP_parse.2.1 97 = .ok (.istore_n 2, 1) := by decide +kernel
theorem dSP_parse_98 : decode mSP_parse.2.1 98 = .ok (.iload_n 2, 1) := by decide +kernel
theorem dSP_parse_99 : decode mSP_parse.2.1 99 = .ok (.ifCond .ne 11, 3) := by decide +kernel
theorem dSP_parse_102 : decode mSP_parse.2.1 102 = .ok (.aload_n 0, 1) := by decide +kernel
theorem dSP_parse_103 : decode mSP_parse.2.1 103 = .ok (.aload_n 0, 1) := by decide +kernel
theorem dSP_parse_104 : decode mSP_parse.2.1 104 = .ok (.getfield 97, 3) := by decide +kernel
theorem dSP_parse_107 : decode mSP_parse.2.1 107 = .ok (.putfield 22, 3) := by decide +kernel
theorem dSP_parse_110 : decode mSP_parse.2.1 110 = .ok (.aload_n 0, 1) := by decide +kernel
theorem dSP_parse_111 : decode mSP_parse.2.1 111 = .ok (.aload_n 0, 1) := by decide +kernel
theorem dSP_parse_112 : decode mSP_parse.2.1 112 = .ok (.getfield 116, 3) := by decide +kernel
theorem dSP_parse_115 : decode mSP_parse.2.1 115 = .ok (.iconst 1, 1) := by decide +kernel
theorem dSP_parse_116 : decode mSP_parse.2.1 116 = .ok (.iadd, 1) := by decide +kernel
theorem dSP_parse_117 : decode mSP_parse.2.1 117 = .ok (.putfield 97, 3) := by decide +kernel
theorem dSP_parse_120 : decode mSP_parse.2.1 120 = .ok (.iinc 3 1, 3) := by decide +kernel
theorem dSP_parse_123 : decode mSP_parse.2.1 123 = .ok (.goto (-69), 3) := by decide +kernel
theorem dSP_parse_126 : decode mSP_parse.2.1 126 = .ok (.iconst 0, 1) := by decide +kernel
theorem dSP_parse_127 : decode mSP_parse.2.1 127 = .ok (.ireturn, 1) := by decide +kernel
theorem dSP_readSpeaker_0 : decode mSP_readSpeaker.2.1 0 = .ok (.aload_n 0, 1) := by decide +kernel
theorem dSP_readSpeaker_1 : decode mSP_readSpeaker.2.1 1 = .ok (.invokevirtual 108, 3) := by decide +kernel
theorem dSP_readSpeaker_4 : decode mSP_readSpeaker.2.1 4 = .ok (.lstore_n 1, 1) := by decide +kernel
theorem dSP_readSpeaker_5 : decode mSP_readSpeaker.2.1 5 = .ok (.lload_n 1, 1) := by decide +kernel
theorem dSP_readSpeaker_6 : decode mSP_readSpeaker.2.1 6 = .ok (.ldc2_w 119, 3) := by decide +kernel
theorem dSP_readSpeaker_9 : decode mSP_readSpeaker.2.1 9 = .ok (.lcmp, 1) := by decide +kernel
theorem dSP_readSpeaker_10 : decode mSP_readSpeaker.2.1 10 = .ok (.ifCond .eq 13, 3) := by decide +kernel
theorem dSP_readSpeaker_13 : decode mSP_readSpeaker.2.1 13 = .ok (.lload_n 1, 1) := by decide +kernel
theorem dSP_readSpeaker_14 : decode mSP_readSpeaker.2.1 14 = .ok (.ldc2_w 121, 3) := by decide +kernel
theorem dSP_readSpeaker_17 : decode mSP_readSpeaker.2.1 17 = .ok (.lcmp, 1) := by decide +kernel
theorem dSP_readSpeaker_18 : decode mSP_readSpeaker.2.1 18 = .ok (.ifCond .eq 5, 3) := by decide +kernel
theorem dSP_readSpeaker_21 : decode mSP_readSpeaker.2.1 21 = .ok (.iconst (-1), 1) := by decide +kernel
theorem dSP_readSpeaker_22 : decode mSP_readSpeaker.2.1 22 = .ok (.ireturn, 1) := by decide +kernel
theorem dSP_readSpeaker_23 : decode mSP_readSpeaker.2.1 23 = .ok (.aload_n 0, 1) := by decide +kernel
theorem dSP_readSpeaker_24 : decode mSP_readSpeaker.2.1 24 = .ok (.aload_n 0, 1) := by decide +kernel
theorem dSP_readSpeaker_25 : decode mSP_readSpeaker.2.1 25 = .ok (.getfield 116, 3) := by decide +kernel
theorem dSP_readSpeaker_28 : decode mSP_readSpeaker.2.1 28 = .ok (.iconst 1, 1) := by decide +kernel
theorem dSP_readSpeaker_29 : decode mSP_readSpeaker.2.1 29 = .ok (.iadd, 1) := by decide +kernel
theorem dSP_readSpeaker_30 : decode mSP_readSpeaker.2.1 30 = .ok (.putfield 97, 3) := by decide +kernel
theorem dSP_readSpeaker_33 : decode mSP_readSpeaker.2.1 33 = .ok (.aload_n 0, 1) := by decide +kernel
theorem dSP_readSpeaker_34 : decode mSP_readSpeaker.2.1 34 = .ok (.getfield 97, 3) := by decide +kernel
theorem dSP_readSpeaker_37 : decode mSP_readSpeaker.2.1 37 = .ok (.aload_n 0, 1) := by decide +kernel
theorem dSP_readSpeaker_38 : decode mSP_readSpeaker.2.1 38 = .ok (.getfield 94, 3) := by decide +kernel
theorem dSP_readSpeaker_41 : decode mSP_readSpeaker.2.1 41 = .ok (.if_icmp .le 14, 3) := by decide +kernel
theorem dSP_readSpeaker_44 : decode mSP_readSpeaker.2.1 44 = .ok (.aload_n 0, 1) := by decide +kernel
theorem dSP_readSpeaker_45 : decode mSP_readSpeaker.2.1 45 = .ok (.aload_n 0, 1) := by decide +kernel
theorem dSP_readSpeaker_46 : decode mSP_readSpeaker.2.1 46 = .ok (.getfield 94, 3) := by decide +kernel
theorem dSP_readSpeaker_49 : decode mSP_readSpeaker.2.1 49 = .ok (.putfield 22, 3) := by decide +kernel
theorem dSP_readSpeaker_52 : decode mSP_readSpeaker.2.1 52 = .ok (.goto 22, 3) := by decide +kernel
theorem dSP_readSpeaker_55 : decode mSP_readSpeaker.2.1 55 = .ok (.aload_n 0, 1) := by decide +kernel
theorem dSP_readSpeaker_56 : decode mSP_readSpeaker.2.1 56 = .ok (.invokevirtual 108, 3) := by decide +kernel
theorem dSP_readSpeaker_59 : decode mSP_readSpeaker.2.1 59 = .ok (.ldc2_w 77, 3) := by decide +kernel
theorem dSP_readSpeaker_62 : decode mSP_readSpeaker.2.1 62 = .ok (.lcmp, 1) := by decide +kernel
theorem dSP_readSpeaker_63 : decode mSP_readSpeaker.2.1 63 = .ok (.ifCond .eq 11, 3) := by decide +kernel
theorem dSP_readSpeaker_66 : decode mSP_readSpeaker.2.1 66 = .ok (.aload_n 0, 1) := by decide +kernel
theorem dSP_readSpeaker_67 : decode mSP_readSpeaker.2.1 67 = .ok (.aload_n 0, 1) := by decide +kernel
theorem dSP_readSpeaker_68 : decode mSP_readSpeaker.2.1 68 = .ok (.getfield 97, 3) := by decide +kernel
theorem dSP_readSpeaker_71 : decode mSP_readSpeaker.2.1 71 = .ok (.putfield 22, 3) := by decide +kernel
theorem dSP_readSpeaker_74 : decode mSP_readSpeaker.2.1 74 = .ok (.aload_n 0, 1) := by decide +kernel
theorem dSP_readSpeaker_75 : decode mSP_readSpeaker.2.1 75 = .ok (.aload_n 0, 1) := by decide +kernel
theorem dSP_readSpeaker_76 : decode mSP_readSpeaker.2.1 76 = .ok (.getfield 116, 3) := by decide +kernel
theorem dSP_readSpeaker_79 : decode mSP_readSpeaker.2.1 79 = .ok (.iconst 1, 1) := by decide +kernel
theorem dSP_readSpeaker_80 : decode mSP_readSpeaker.2.1 80 = .ok (.iadd, 1) := by decide +kernel
theorem dSP_readSpeaker_81 : decode mSP_readSpeaker.2.1 81 = .ok (.putfield 97, 3) := by decide +kernel
theorem dSP_readSpeaker_84 : decode mSP_readSpeaker.2.1 84 = .ok (.lload_n 1, 1) := by decide +kernel
theorem dSP_readSpeaker_85 : decode mSP_readSpeaker.2.1 85 = .ok (.l2i, 1) := by decide +kernel
theorem dSP_readSpeaker_86 : decode mSP_readSpeaker.2.1 86 = .ok (.bipush 48, 2) := by decide +kernel
theorem dSP_readSpeaker_88 : decode mSP_readSpeaker.2.1 88 = .ok (.isub, 1) := by decide +kernel
theorem dSP_readSpeaker_89 : decode mSP_readSpeaker.2.1 89 = .ok (.ireturn, 1) := by decide +kernel
theorem dSP_readWord_0 : decode mSP_readWord.2.1 0 = .ok (.lconst 0, 1) := by decide +kernel
theorem dSP_readWord_1 : decode mSP_readWord.2.1 1 = .ok (.lstore_n 1, 1) := by decide +kernel
theorem dSP_readWord_2 : decode mSP_readWord.2.1 2 = .ok (.aload_n 0, 1) := by decide +kernel
theorem dSP_readWord_3 : decode mSP_readWord.2.1 3 = .ok (.aload_n 0, 1) := by decide +kernel
theorem dSP_readWord_4 : decode mSP_readWord.2.1 4 = .ok (.getfield 97, 3) := by decide +kernel
theorem dSP_readWord_7 : decode mSP_readWord.2.1 7 = .ok (.putfield 116, 3) := by decide +kernel
theorem dSP_readWord_10 : decode mSP_readWord.2.1 10 = .ok (.aload_n 0, 1) := by decide +kernel
theorem dSP_readWord_11 : decode mSP_readWord.2.1 11 = .ok (.getfield 97, 3) := by decide +kernel
theorem dSP_readWord_14 : decode mSP_readWord.2.1 14 = .ok (.istore_n 3, 1) := by decide +kernel
theorem dSP_readWord_15 : decode mSP_readWord.2.1 15 = .ok (.iload_n 3, 1) := by decide +kernel
theorem dSP_readWord_16 : decode mSP_readWord.2.1 16 = .ok (.aload_n 0, 1) := by decide +kernel
theorem dSP_readWord_17 : decode mSP_readWord.2.1 17 = .ok (.getfield 94, 3) := by decide +kernel
theorem dSP_readWord_20 : decode mSP_readWord.2.1 20 = .ok (.if_icmp .ge 40, 3) := by decide +kernel
theorem dSP_readWord_23 : decode mSP_readWord.2.1 23 = .ok (.aload_n 0, 1) := by decide +kernel
theorem dSP_readWord_24 : decode mSP_readWord.2.1 24 = .ok (.getfield 15, 3) := by decide +kernel
theorem dSP_readWord_27 : decode mSP_readWord.2.1 27 = .ok (.iload_n 3, 1) := by decide +kernel
theorem dSP_readWord_28 : decode mSP_readWord.2.1 28 = .ok (.iaload, 1) := by decide +kernel
theorem dSP_readWord_29 : decode mSP_readWord.2.1 29 = .ok (.bipush 32, 2) := by decide +kernel
theorem dSP_readWord_31 : decode mSP_readWord.2.1 31 = .ok (.if_icmp .eq 29, 3) := by decide +kernel
theorem dSP_readWord_34 : decode mSP_readWord.2.1 34 = .ok (.lload_n 1, 1) := by decide +kernel
theorem dSP_readWord_35 : decode mSP_readWord.2.1 35 = .ok (.bipush 8, 2) := by decide +kernel
theorem dSP_readWord_37 : decode mSP_readWord.2.1 37 = .ok (.lshl, 1) := by decide +kernel
theorem dSP_readWord_38 : decode mSP_readWord.2.1 38 = .ok (.aload_n 0, 1) := by decide +kernel
theorem dSP_readWord_39 : decode mSP_readWord.2.1 39 = .ok (.getfield 15, 3) := by decide +kernel
theorem dSP_readWord_42 : decode mSP_readWord.2.1 42 = .ok (.iload_n 3, 1) := by decide +kernel
theorem dSP_readWord_43 : decode mSP_readWord.2.1 43 = .ok (.iaload, 1) := by decide +kernel
theorem dSP_readWord_44 : decode mSP_readWord.2.1 44 = .ok (.i2l, 1) := by decide +kernel
theorem dSP_readWord_45 : decode mSP_readWord.2.1 45 = .ok (.lor, 1) := by decide +kernel
theorem dSP_readWord_46 : decode mSP_readWord.2.1 46 = .ok (.lstore_n 1, 1) := by decide +kernel
theorem dSP_readWord_47 : decode mSP_readWord.2.1 47 = .ok (.aload_n 0, 1) := by decide +kernel
theorem dSP_readWord_48 : decode mSP_readWord.2.1 48 = .ok (.iload_n 3, 1) := by decide +kernel
theorem dSP_readWord_49 : decode mSP_readWord.2.1 49 = .ok (.iconst 1, 1) := by decide +kernel
theorem dSP_readWord_50 : decode mSP_readWord.2.1 50 = .ok (.iadd, 1) := by decide +kernel
theorem dSP_readWord_51 : decode mSP_readWord.2.1 51 = .ok (.putfield 116, 3) := by decide +kernel
theorem dSP_readWord_54 : decode mSP_readWord.2.1 54 = .ok (.iinc 3 1, 3) := by decide +kernel
theorem dSP_readWord_57 : decode mSP_readWord.2.1 57 = .ok (.goto (-42), 3) := by decide +kernel
theorem dSP_readWord_60 : decode mSP_readWord.2.1 60 = .ok (.aload_n 0, 1) := by decide +kernel
theorem dSP_readWord_61 : decode mSP_readWord.2.1 61 = .ok (.getfield 116, 3) := by decide +kernel
theorem dSP_readWord_64 : decode mSP_readWord.2.1 64 = .ok (.aload_n 0, 1) := by decide +kernel
theorem dSP_readWord_65 : decode mSP_readWord.2.1 65 = .ok (.getfield 97, 3) := by decide +kernel
theorem dSP_readWord_68 : decode mSP_readWord.2.1 68 = .ok (.isub, 1) := by decide +kernel
theorem dSP_readWord_69 : decode mSP_readWord.2.1 69 = .ok (.istore_n 3, 1) := by decide +kernel
theorem dSP_readWord_70 : decode mSP_readWord.2.1 70 = .ok (.iload_n 3, 1) := by decide +kernel
theorem dSP_readWord_71 : decode mSP_readWord.2.1 71 = .ok (.iconst 1, 1) := by decide +kernel
theorem dSP_readWord_72 : decode mSP_readWord.2.1 72 = .ok (.if_icmp .lt 13, 3) := by decide +kernel
theorem dSP_readWord_75 : decode mSP_readWord.2.1 75 = .ok (.iload_n 3, 1) := by decide +kernel
theorem dSP_readWord_76 : decode mSP_readWord.2.1 76 = .ok (.bipush 7, 2) := by decide +kernel
theorem dSP_readWord_78 : decode mSP_readWord.2.1 78 = .ok (.if_icmp .gt 7, 3) := by decide +kernel
theorem dSP_readWord_81 : decode mSP_readWord.2.1 81 = .ok (.lload_n 1, 1) := by decide +kernel
theorem dSP_readWord_82 : decode mSP_readWord.2.1 82 = .ok (.goto 6, 3) := by decide +kernel
theorem dSP_readWord_85 : decode mSP_readWord.2.1 85 = .ok (.ldc2_w 33, 3) := by decide +kernel
theorem dSP_readWord_88 : decode mSP_readWord.2.1 88 = .ok (.lreturn, 1) := by decide +kernel
theorem dSP_isEnded_0 : decode mSP_isEnded.2.1 0 = .ok (.iconst 0, 1) := by decide +kernel
theorem dSP_isEnded_1 : decode mSP_isEnded.2.1 1 = .ok (.istore 4, 2) := by decide +kernel
theorem dSP_isEnded_3 : decode mSP_isEnded.2.1 3 = .ok (.iload 4, 2) := by decide +kernel
theorem dSP_isEnded_5 : decode mSP_isEnded.2.1 5 = .ok (.bipush 10, 2) := by decide +kernel
theorem dSP_isEnded_7 : decode mSP_isEnded.2.1 7 = .ok (.if_icmp .ge 70, 3) := by decide +kernel
theorem dSP_isEnded_10 : decode mSP_isEnded.2.1 10 = .ok (.iload_n 1, 1) := by decide +kernel
theorem dSP_isEnded_11 : decode mSP_isEnded.2.1 11 = .ok (.iload 4, 2) := by decide +kernel
theorem dSP_isEnded_13 : decode mSP_isEnded.2.1 13 = .ok (.ishr, 1) := by decide +kernel
theorem dSP_isEnded_14 : decode mSP_isEnded.2.1 14 = .ok (.iconst 1, 1) := by decide +kernel
theorem dSP_isEnded_15 : decode mSP_isEnded.2.1 15 = .ok (.iand, 1) := by decide +kernel
theorem dSP_isEnded_16 : decode mSP_isEnded.2.1 16 = .ok (.ifCond .eq 55, 3) := by decide +kernel
theorem dSP_isEnded_19 : decode mSP_isEnded.2.1 19 = .ok (.getstatic 83, 3) := by decide +kernel
theorem dSP_isEnded_22 : decode mSP_isEnded.2.1 22 = .ok (.bipush 7, 2) := by decide +kernel
theorem dSP_isEnded_24 : decode mSP_isEnded.2.1 24 = .ok (.iload 4, 2) := by decide +kernel
theorem dSP_isEnded_26 : decode mSP_isEnded.2.1 26 = .ok (.imul, 1) := by decide +kernel
theorem dSP_isEnded_27 : decode mSP_isEnded.2.1 27 = .ok (.iload_n 2, 1) := by decide +kernel
theorem dSP_isEnded_28 : decode mSP_isEnded.2.1 28 = .ok (.iadd, 1) := by decide +kernel
theorem dSP_isEnded_29 : decode mSP_isEnded.2.1 29 = .ok (.laload, 1) := by decide +kernel
theorem dSP_isEnded_30 : decode mSP_isEnded.2.1 30 = .ok (.lconst 0, 1) := by decide +kernel
theorem dSP_isEnded_31 : decode mSP_isEnded.2.1 31 = .ok (.lcmp, 1) := by decide +kernel
theorem dSP_isEnded_32 : decode mSP_isEnded.2.1 32 = .ok (.ifCond .ne 39, 3) := by decide +kernel
theorem dSP_isEnded_35 : decode mSP_isEnded.2.1 35 = .ok (.aload_n 0, 1) := by decide +kernel
theorem dSP_isEnded_36 : decode mSP_isEnded.2.1 36 = .ok (.iload 4, 2) := by decide +kernel
theorem dSP_isEnded_38 : decode mSP_isEnded.2.1 38 = .ok (.aload_n 0, 1) := by decide +kernel
theorem dSP_isEnded_39 : decode mSP_isEnded.2.1 39 = .ok (.getfield 26, 3) := by decide +kernel
theorem dSP_isEnded_42 : decode mSP_isEnded.2.1 42 = .ok (.iconst 1, 1) := by decide +kernel
theorem dSP_isEnded_43 : decode mSP_isEnded.2.1 43 = .ok (.iaload, 1) := by decide +kernel
theorem dSP_isEnded_44 : decode mSP_isEnded.2.1 44 = .ok (.aload_n 0, 1) := by decide +kernel
theorem dSP_isEnded_45 : decode mSP_isEnded.2.1 45 = .ok (.getfield 26, 3) := by decide +kernel
theorem dSP_isEnded_48 : decode mSP_isEnded.2.1 48 = .ok (.iconst 2, 1) := by decide +kernel
theorem dSP_isEnded_49 : decode mSP_isEnded.2.1 49 = .ok (.iaload, 1) := by decide +kernel
theorem dSP_isEnded_50 : decode mSP_isEnded.2.1 50 = .ok (.aload_n 0, 1) := by decide +kernel
theorem dSP_isEnded_51 : decode mSP_isEnded.2.1 51 = .ok (.getfield 26, 3) := by decide +kernel
theorem dSP_isEnded_54 : decode mSP_isEnded.2.1 54 = .ok (.iconst 3, 1) := by decide +kernel
theorem dSP_isEnded_55 : decode mSP_isEnded.2.1 55 = .ok (.iaload, 1) := by decide +kernel
theorem dSP_isEnded_56 : decode mSP_isEnded.2.1 56 = .ok (.aload_n 0, 1) := by decide +kernel
theorem dSP_isEnded_57 : decode mSP_isEnded.2.1 57 = .ok (.getfield 26, 3) := by decide +kernel
theorem dSP_isEnded_60 : decode mSP_isEnded.2.1 60 = .ok (.iconst 4, 1) := by decide +kernel
theorem dSP_isEnded_61 : decode mSP_isEnded.2.1 61 = .ok (.iaload, 1) := by decide +kernel
theorem dSP_isEnded_62 : decode mSP_isEnded.2.1 62 = .ok (.iload_n 3, 1) := by decide +kernel
theorem dSP_isEnded_63 : decode mSP_isEnded.2.1 63 = .ok (.invokestatic 129, 3) := by decide +kernel
theorem dSP_isEnded_66 : decode mSP_isEnded.2.1 66 = .ok (.putfield 133, 3) := by decide +kernel
theorem dSP_isEnded_69 : decode mSP_isEnded.2.1 69 = .ok (.iconst 1, 1) := by decide +kernel
theorem dSP_isEnded_70 : decode mSP_isEnded.2.1 70 = .ok (.ireturn, 1) := by decide +kernel
theorem dSP_isEnded_71 : decode mSP_isEnded.2.1 71 = .ok (.iinc 4 1, 3) := by decide +kernel
theorem dSP_isEnded_74 : decode mSP_isEnded.2.1 74 = .ok (.goto (-71), 3) := by decide +kernel
theorem dSP_isEnded_77 : decode mSP_isEnded.2.1 77 = .ok (.aload_n 0, 1) := by decide +kernel
theorem dSP_isEnded_78 : decode mSP_isEnded.2.1 78 = .ok (.aload_n 0, 1) := by decide +kernel
theorem dSP_isEnded_79 : decode mSP_isEnded.2.1 79 = .ok (.getfield 94, 3) := by decide +kernel
theorem dSP_isEnded_82 : decode mSP_isEnded.2.1 82 = .ok (.putfield 22, 3) := by decide +kernel
theorem dSP_isEnded_85 : decode mSP_isEnded.2.1 85 = .ok (.iconst 0, 1) := by decide +kernel
theorem dSP_isEnded_86 : decode mSP_isEnded.2.1 86 = .ok (.ireturn, 1) := by decide +kernel
theorem dSP_goingOn_0 : decode mSP_goingOn.2.1 0 = .ok (.iload_n 1, 1) := by decide +kernel
theorem dSP_goingOn_1 : decode mSP_goingOn.2.1 1 = .ok (.istore 5, 2) := by decide +kernel
theorem dSP_goingOn_3 : decode mSP_goingOn.2.1 3 = .ok (.iconst 0, 1) := by decide +kernel
theorem dSP_goingOn_4 : decode mSP_goingOn.2.1 4 = .ok (.istore 6, 2) := by decide +kernel
theorem dSP_goingOn_6 : decode mSP_goingOn.2.1 6 = .ok (.iload 6, 2) := by decide +kernel
theorem dSP_goingOn_8 : decode mSP_goingOn.2.1 8 = .ok (.bipush 10, 2) := by decide +kernel
theorem dSP_goingOn_10 : decode mSP_goingOn.2.1 10 = .ok (.if_icmp .ge 89, 3) := by decide +kernel
theorem dSP_goingOn_13 : decode mSP_goingOn.2.1 13 = .ok (.iload_n 1, 1) := by decide +kernel
theorem dSP_goingOn_14 : decode mSP_goingOn.2.1 14 = .ok (.iload 6, 2) := by decide +kernel
theorem dSP_goingOn_16 : decode mSP_goingOn.2.1 16 = .ok (.ishr, 1) := by decide +kernel
theorem dSP_goingOn_17 : decode mSP_goingOn.2.1 17 = .ok (.iconst 1, 1) := by decide +kernel
theorem dSP_goingOn_18 : decode mSP_goingOn.2.1 18 = .ok (.iand, 1) := by decide +kernel
theorem dSP_goingOn_19 : decode mSP_goingOn.2.1 19 = .ok (.ifCond .ne 6, 3) := by decide +kernel
theorem dSP_goingOn_22 : decode mSP_goingOn.2.1 22 = .ok (.goto 71, 3) := by decide +kernel
theorem dSP_goingOn_25 : decode mSP_goingOn.2.1 25 = .ok (.getstatic 83, 3) := by decide +kernel
theorem dSP_goingOn_28 : decode mSP_goingOn.2.1 28 = .ok (.bipush 7, 2) := by decide +kernel
theorem dSP_goingOn_30 : decode mSP_goingOn.2.1 30 = .ok (.iload 6, 2) := by decide +kernel
theorem dSP_goingOn_32 : decode mSP_goingOn.2.1 32 = .ok (.imul, 1) := by decide +kernel
theorem dSP_goingOn_33 : decode mSP_goingOn.2.1 33 = .ok (.iload_n 2, 1) := by decide +kernel
theorem dSP_goingOn_34 : decode mSP_goingOn.2.1 34 = .ok (.iadd, 1) := by decide +kernel
theorem dSP_goingOn_35 : decode mSP_goingOn.2.1 35 = .ok (.laload, 1) := by decide +kernel
theorem dSP_goingOn_36 : decode mSP_goingOn.2.1 36 = .ok (.lstore 7, 2) := by decide +kernel
theorem dSP_goingOn_38 : decode mSP_goingOn.2.1 38 = .ok (.aload_n 0, 1) := by decide +kernel
theorem dSP_goingOn_39 : decode mSP_goingOn.2.1 39 = .ok (.lload 7, 2) := by decide +kernel
theorem dSP_goingOn_41 : decode mSP_goingOn.2.1 41 = .ok (.lload_n 3, 1) := by decide +kernel
theorem dSP_goingOn_42 : decode mSP_goingOn.2.1 42 = .ok (.invokevirtual 123, 3) := by decide +kernel
theorem dSP_goingOn_45 : decode mSP_goingOn.2.1 45 = .ok (.istore 9, 2) := by decide +kernel
theorem dSP_goingOn_47 : decode mSP_goingOn.2.1 47 = .ok (.iload 9, 2) := by decide +kernel
theorem dSP_goingOn_49 : decode mSP_goingOn.2.1 49 = .ok (.iconst (-1), 1) := by decide +kernel
theorem dSP_goingOn_50 : decode mSP_goingOn.2.1 50 = .ok (.if_icmp .ne 17, 3) := by decide +kernel
theorem dSP_goingOn_53 : decode mSP_goingOn.2.1 53 = .ok (.iload 5, 2) := by decide +kernel
theorem dSP_goingOn_55 : decode mSP_goingOn.2.1 55 = .ok (.iconst 1, 1) := by decide +kernel
theorem dSP_goingOn_56 : decode mSP_goingOn.2.1 56 = .ok (.iload 6, 2) := by decide +kernel
theorem dSP_goingOn_58 : decode mSP_goingOn.2.1 58 = .ok (.ishl, 1) := by decide +kernel
theorem dSP_goingOn_59 : decode mSP_goingOn.2.1 59 = .ok (.iconst (-1), 1) := by decide +kernel
theorem dSP_goingOn_60 : decode mSP_goingOn.2.1 60 = .ok (.ixor, 1) := by decide +kernel
theorem dSP_goingOn_61 : decode mSP_goingOn.2.1 61 = .ok (.iand, 1) := by decide +kernel
theorem dSP_goingOn_62 : decode mSP_goingOn.2.1 62 = .ok (.istore 5, 2) := by decide +kernel
theorem dSP_goingOn_64 : decode mSP_goingOn.2.1 64 = .ok (.goto 29, 3) := by decide +kernel
theorem dSP_goingOn_67 : decode mSP_goingOn.2.1 67 = .ok (.lload 7, 2) := by decide +kernel
theorem dSP_goingOn_69 : decode mSP_goingOn.2.1 69 = .ok (.lconst 1, 1) := by decide +kernel
theorem dSP_goingOn_70 : decode mSP_goingOn.2.1 70 = .ok (.lcmp, 1) := by decide +kernel
theorem dSP_goingOn_71 : decode mSP_goingOn.2.1 71 = .ok (.ifCond .lt 22, 3) := by decide +kernel
theorem dSP_goingOn_74 : decode mSP_goingOn.2.1 74 = .ok (.lload 7, 2) := by decide +kernel
theorem dSP_goingOn_76 : decode mSP_goingOn.2.1 76 = .ok (.ldc2_w 89, 3) := by decide +kernel
theorem dSP_goingOn_79 : decode mSP_goingOn.2.1 79 = .ok (.lcmp, 1) := by decide +kernel
theorem dSP_goingOn_80 : decode mSP_goingOn.2.1 80 = .ok (.ifCond .gt 13, 3) := by decide +kernel
theorem dSP_goingOn_83 : decode mSP_goingOn.2.1 83 = .ok (.aload_n 0, 1) := by decide +kernel
theorem dSP_goingOn_84 : decode mSP_goingOn.2.1 84 = .ok (.getfield 26, 3) := by decide +kernel
theorem dSP_goingOn_87 : decode mSP_goingOn.2.1 87 = .ok (.lload 7, 2) := by decide +kernel
theorem dSP_goingOn_89 : decode mSP_goingOn.2.1 89 = .ok (.l2i, 1) := by decide +kernel
theorem dSP_goingOn_90 : decode mSP_goingOn.2.1 90 = .ok (.iload 9, 2) := by decide +kernel
theorem dSP_goingOn_92 : decode mSP_goingOn.2.1 92 = .ok (.iastore, 1) := by decide +kernel
theorem dSP_goingOn_93 : decode mSP_goingOn.2.1 93 = .ok (.iinc 6 1, 3) := by decide +kernel
theorem dSP_goingOn_96 : decode mSP_goingOn.2.1 96 = .ok (.goto (-90), 3) := by decide +kernel
theorem dSP_goingOn_99 : decode mSP_goingOn.2.1 99 = .ok (.iload 5, 2) := by decide +kernel
theorem dSP_goingOn_101 : decode mSP_goingOn.2.1 101 = .ok (.ireturn, 1) := by decide +kernel
theorem dSP_meaning_0 : decode mSP_meaning.2.1 0 = .ok (.lload_n 1, 1) := by decide +kernel
theorem dSP_meaning_1 : decode mSP_meaning.2.1 1 = .ok (.lconst 0, 1) := by decide +kernel
theorem dSP_meaning_2 : decode mSP_meaning.2.1 2 = .ok (.lcmp, 1) := by decide +kernel
theorem dSP_meaning_3 : decode mSP_meaning.2.1 3 = .ok (.ifCond .eq 11, 3) := by decide +kernel
theorem dSP_meaning_6 : decode mSP_meaning.2.1 6 = .ok (.lload_n 3, 1) := by decide +kernel
theorem dSP_meaning_7 : decode mSP_meaning.2.1 7 = .ok (.ldc2_w 33, 3) := by decide +kernel
theorem dSP_meaning_10 : decode mSP_meaning.2.1 10 = .ok (.lcmp, 1) := by decide +kernel
theorem dSP_meaning_11 : decode mSP_meaning.2.1 11 = .ok (.ifCond .ne 5, 3) := by decide +kernel
theorem dSP_meaning_14 : decode mSP_meaning.2.1 14 = .ok (.iconst (-1), 1) := by decide +kernel
theorem dSP_meaning_15 : decode mSP_meaning.2.1 15 = .ok (.ireturn, 1) := by decide +kernel
theorem dSP_meaning_16 : decode mSP_meaning.2.1 16 = .ok (.lload_n 1, 1) := by decide +kernel
theorem dSP_meaning_17 : decode mSP_meaning.2.1 17 = .ok (.ldc2_w 89, 3) := by decide +kernel
theorem dSP_meaning_20 : decode mSP_meaning.2.1 20 = .ok (.lcmp, 1) := by decide +kernel
theorem dSP_meaning_21 : decode mSP_meaning.2.1 21 = .ok (.ifCond .ge 9, 3) := by decide +kernel
theorem dSP_meaning_24 : decode mSP_meaning.2.1 24 = .ok (.aload_n 0, 1) := by decide +kernel
theorem dSP_meaning_25 : decode mSP_meaning.2.1 25 = .ok (.lload_n 3, 1) := by decide +kernel
theorem dSP_meaning_26 : decode mSP_meaning.2.1 26 = .ok (.invokevirtual 39, 3) := by decide +kernel
theorem dSP_meaning_29 : decode mSP_meaning.2.1 29 = .ok (.ireturn, 1) := by decide +kernel
theorem dSP_meaning_30 : decode mSP_meaning.2.1 30 = .ok (.lload_n 1, 1) := by decide +kernel
theorem dSP_meaning_31 : decode mSP_meaning.2.1 31 = .ok (.ldc2_w 89, 3) := by decide +kernel
theorem dSP_meaning_34 : decode mSP_meaning.2.1 34 = .ok (.lcmp, 1) := by decide +kernel
theorem dSP_meaning_35 : decode mSP_meaning.2.1 35 = .ok (.ifCond .ne 29, 3) := by decide +kernel
theorem dSP_meaning_38 : decode mSP_meaning.2.1 38 = .ok (.lload_n 3, 1) := by decide +kernel
theorem dSP_meaning_39 : decode mSP_meaning.2.1 39 = .ok (.ldc2_w 119, 3) := by decide +kernel
theorem dSP_meaning_42 : decode mSP_meaning.2.1 42 = .ok (.lcmp, 1) := by decide +kernel
theorem dSP_meaning_43 : decode mSP_meaning.2.1 43 = .ok (.ifCond .lt 19, 3) := by decide +kernel
theorem dSP_meaning_46 : decode mSP_meaning.2.1 46 = .ok (.lload_n 3, 1) := by decide +kernel
theorem dSP_meaning_47 : decode mSP_meaning.2.1 47 = .ok (.ldc2_w 127, 3) := by decide +kernel
theorem dSP_meaning_50 : decode mSP_meaning.2.1 50 = .ok (.lcmp, 1) := by decide +kernel
theorem dSP_meaning_51 : decode mSP_meaning.2.1 51 = .ok (.ifCond .gt 11, 3) := by decide +kernel
theorem dSP_meaning_54 : decode mSP_meaning.2.1 54 = .ok (.lload_n 3, 1) := by decide +kernel
theorem dSP_meaning_55 : decode mSP_meaning.2.1 55 = .ok (.l2i, 1) := by decide +kernel
theorem dSP_meaning_56 : decode mSP_meaning.2.1 56 = .ok (.bipush 48, 2) := by decide +kernel
theorem dSP_meaning_58 : decode mSP_meaning.2.1 58 = .ok (.isub, 1) := by decide +kernel
theorem dSP_meaning_59 : decode mSP_meaning.2.1 59 = .ok (.goto 4, 3) := by decide +kernel
theorem dSP_meaning_62 : decode mSP_meaning.2.1 62 = .ok (.iconst (-1), 1) := by decide +kernel
theorem dSP_meaning_63 : decode mSP_meaning.2.1 63 = .ok (.ireturn, 1) := by decide +kernel
theorem dSP_meaning_64 : decode mSP_meaning.2.1 64 = .ok (.lload_n 3, 1) := by decide +kernel
theorem dSP_meaning_65 : decode mSP_meaning.2.1 65 = .ok (.lload_n 1, 1) := by decide +kernel
theorem dSP_meaning_66 : decode mSP_meaning.2.1 66 = .ok (.lcmp, 1) := by decide +kernel
theorem dSP_meaning_67 : decode mSP_meaning.2.1 67 = .ok (.ifCond .ne 7, 3) := by decide +kernel
theorem dSP_meaning_70 : decode mSP_meaning.2.1 70 = .ok (.iconst 0, 1) := by decide +kernel
theorem dSP_meaning_71 : decode mSP_meaning.2.1 71 = .ok (.goto 4, 3) := by decide +kernel
theorem dSP_meaning_74 : decode mSP_meaning.2.1 74 = .ok (.iconst (-1), 1) := by decide +kernel
theorem dSP_meaning_75 : decode mSP_meaning.2.1 75 = .ok (.ireturn, 1) := by decide +kernel
