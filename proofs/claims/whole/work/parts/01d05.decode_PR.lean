theorem dPR_init_0 : decode mPR_init.2.1 0 = .ok (.aload_n 0, 1) := by decide +kernel
theorem dPR_init_1 : decode mPR_init.2.1 1 = .ok (.invokespecial 3, 3) := by decide +kernel
theorem dPR_init_4 : decode mPR_init.2.1 4 = .ok (.aload_n 0, 1) := by decide +kernel
theorem dPR_init_5 : decode mPR_init.2.1 5 = .ok (.bipush 40, 2) := by decide +kernel
theorem dPR_init_7 : decode mPR_init.2.1 7 = .ok (.newarray .int, 2) := by decide +kernel
theorem dPR_init_9 : decode mPR_init.2.1 9 = .ok (.putfield 9, 3) := by decide +kernel
theorem dPR_init_12 : decode mPR_init.2.1 12 = .ok (.aload_n 0, 1) := by decide +kernel
theorem dPR_init_13 : decode mPR_init.2.1 13 = .ok (.bipush 50, 2) := by decide +kernel
theorem dPR_init_15 : decode mPR_init.2.1 15 = .ok (.newarray .int, 2) := by decide +kernel
theorem dPR_init_17 : decode mPR_init.2.1 17 = .ok (.putfield 15, 3) := by decide +kernel
theorem dPR_init_20 : decode mPR_init.2.1 20 = .ok (.aload_n 0, 1) := by decide +kernel
theorem dPR_init_21 : decode mPR_init.2.1 21 = .ok (.bipush 50, 2) := by decide +kernel
theorem dPR_init_23 : decode mPR_init.2.1 23 = .ok (.newarray .int, 2) := by decide +kernel
theorem dPR_init_25 : decode mPR_init.2.1 25 = .ok (.putfield 18, 3) := by decide +kernel
theorem dPR_init_28 : decode mPR_init.2.1 28 = .ok (.aload_n 0, 1) := by decide +kernel
theorem dPR_init_29 : decode mPR_init.2.1 29 = .ok (.bipush 50, 2) := by decide +kernel
theorem dPR_init_31 : decode mPR_init.2.1 31 = .ok (.newarray .int, 2) := by decide +kernel
theorem dPR_init_33 : decode mPR_init.2.1 33 = .ok (.putfield 21, 3) := by decide +kernel
theorem dPR_init_36 : decode mPR_init.2.1 36 = .ok (.aload_n 0, 1) := by decide +kernel
theorem dPR_init_37 : decode mPR_init.2.1 37 = .ok (.bipush 50, 2) := by decide +kernel
theorem dPR_init_39 : decode mPR_init.2.1 39 = .ok (.newarray .int, 2) := by decide +kernel
theorem dPR_init_41 : decode mPR_init.2.1 41 = .ok (.putfield 24, 3) := by decide +kernel
theorem dPR_init_44 : decode mPR_init.2.1 44 = .ok (.aload_n 0, 1) := by decide +kernel
theorem dPR_init_45 : decode mPR_init.2.1 45 = .ok (.iload_n 1, 1) := by decide +kernel
theorem dPR_init_46 : decode mPR_init.2.1 46 = .ok (.putfield 27, 3) := by decide +kernel
theorem dPR_init_49 : decode mPR_init.2.1 49 = .ok (.aload_n 0, 1) := by decide +kernel
theorem dPR_init_50 : decode mPR_init.2.1 50 = .ok (.iload_n 1, 1) := by decide +kernel
theorem dPR_init_51 : decode mPR_init.2.1 51 = .ok (.iload_n 2, 1) := by decide +kernel
theorem dPR_init_52 : decode mPR_init.2.1 52 = .ok (.imul, 1) := by decide +kernel
theorem dPR_init_53 : decode mPR_init.2.1 53 = .ok (.putfield 31, 3) := by decide +kernel
theorem dPR_init_56 : decode mPR_init.2.1 56 = .ok (.return_, 1) := by decide +kernel
theorem dPR_run_0 : decode mPR_run.2.1 0 = .ok (.aload_n 0, 1) := by decide +kernel
theorem dPR_run_1 : decode mPR_run.2.1 1 = .ok (.iconst 0, 1) := by decide +kernel
theorem dPR_run_2 : decode mPR_run.2.1 2 = .ok (.putfield 34, 3) := by decide +kernel
theorem dPR_run_5 : decode mPR_run.2.1 5 = .ok (.aload_n 0, 1) := by decide +kernel
theorem dPR_run_6 : decode mPR_run.2.1 6 = .ok (.iconst 0, 1) := by decide +kernel
theorem dPR_run_7 : decode mPR_run.2.1 7 = .ok (.putfield 37, 3) := by decide +kernel
theorem dPR_run_10 : decode mPR_run.2.1 10 = .ok (.aload_n 0, 1) := by decide +kernel
theorem dPR_run_11 : decode mPR_run.2.1 11 = .ok (.iconst 0, 1) := by decide +kernel
theorem dPR_run_12 : decode mPR_run.2.1 12 = .ok (.putfield 40, 3) := by decide +kernel
theorem dPR_run_15 : decode mPR_run.2.1 15 = .ok (.iconst 0, 1) := by decide +kernel
theorem dPR_run_16 : decode mPR_run.2.1 16 = .ok (.istore_n 2, 1) := by decide +kernel
theorem dPR_run_17 : decode mPR_run.2.1 17 = .ok (.iload_n 2, 1) := by decide +kernel
theorem dPR_run_18 : decode mPR_run.2.1 18 = .ok (.aload_n 0, 1) := by decide +kernel
theorem dPR_run_19 : decode mPR_run.2.1 19 = .ok (.getfield 31, 3) := by decide +kernel
theorem dPR_run_22 : decode mPR_run.2.1 22 = .ok (.if_icmp .ge 30, 3) := by decide +kernel
theorem dPR_run_25 : decode mPR_run.2.1 25 = .ok (.aload_n 0, 1) := by decide +kernel
theorem dPR_run_26 : decode mPR_run.2.1 26 = .ok (.getfield 9, 3) := by decide +kernel
theorem dPR_run_29 : decode mPR_run.2.1 29 = .ok (.iload_n 2, 1) := by decide +kernel
theorem dPR_run_30 : decode mPR_run.2.1 30 = .ok (.aload_n 0, 1) := by decide +kernel
theorem dPR_run_31 : decode mPR_run.2.1 31 = .ok (.getfield 27, 3) := by decide +kernel
theorem dPR_run_34 : decode mPR_run.2.1 34 = .ok (.invokestatic 44, 3) := by decide +kernel
theorem dPR_run_37 : decode mPR_run.2.1 37 = .ok (.iconst 1, 1) := by decide +kernel
theorem dPR_run_38 : decode mPR_run.2.1 38 = .ok (.aload_n 0, 1) := by decide +kernel
theorem dPR_run_39 : decode mPR_run.2.1 39 = .ok (.getfield 27, 3) := by decide +kernel
theorem dPR_run_42 : decode mPR_run.2.1 42 = .ok (.ishl, 1) := by decide +kernel
theorem dPR_run_43 : decode mPR_run.2.1 43 = .ok (.iconst 1, 1) := by decide +kernel
theorem dPR_run_44 : decode mPR_run.2.1 44 = .ok (.isub, 1) := by decide +kernel
theorem dPR_run_45 : decode mPR_run.2.1 45 = .ok (.iastore, 1) := by decide +kernel
theorem dPR_run_46 : decode mPR_run.2.1 46 = .ok (.iinc 2 1, 3) := by decide +kernel
theorem dPR_run_49 : decode mPR_run.2.1 49 = .ok (.goto (-32), 3) := by decide +kernel
theorem dPR_run_52 : decode mPR_run.2.1 52 = .ok (.iconst 1, 1) := by decide +kernel
theorem dPR_run_53 : decode mPR_run.2.1 53 = .ok (.istore_n 2, 1) := by decide +kernel
theorem dPR_run_54 : decode mPR_run.2.1 54 = .ok (.iconst 0, 1) := by decide +kernel
theorem dPR_run_55 : decode mPR_run.2.1 55 = .ok (.istore_n 3, 1) := by decide +kernel
theorem dPR_run_56 : decode mPR_run.2.1 56 = .ok (.iload_n 3, 1) := by decide +kernel
theorem dPR_run_57 : decode mPR_run.2.1 57 = .ok (.bipush 50, 2) := by decide +kernel
theorem dPR_run_59 : decode mPR_run.2.1 59 = .ok (.if_icmp .ge 68, 3) := by decide +kernel
theorem dPR_run_62 : decode mPR_run.2.1 62 = .ok (.iload_n 2, 1) := by decide +kernel
theorem dPR_run_63 : decode mPR_run.2.1 63 = .ok (.ifCond .eq 64, 3) := by decide +kernel
theorem dPR_run_66 : decode mPR_run.2.1 66 = .ok (.aload_n 0, 1) := by decide +kernel
theorem dPR_run_67 : decode mPR_run.2.1 67 = .ok (.getfield 40, 3) := by decide +kernel
theorem dPR_run_70 : decode mPR_run.2.1 70 = .ok (.ifCond .ne 57, 3) := by decide +kernel
theorem dPR_run_73 : decode mPR_run.2.1 73 = .ok (.aload_n 0, 1) := by decide +kernel
theorem dPR_run_74 : decode mPR_run.2.1 74 = .ok (.iconst 1, 1) := by decide +kernel
theorem dPR_run_75 : decode mPR_run.2.1 75 = .ok (.invokevirtual 50, 3) := by decide +kernel
theorem dPR_run_78 : decode mPR_run.2.1 78 = .ok (.ifCond .ne 37, 3) := by decide +kernel
theorem dPR_run_81 : decode mPR_run.2.1 81 = .ok (.aload_n 0, 1) := by decide +kernel
theorem dPR_run_82 : decode mPR_run.2.1 82 = .ok (.iconst 2, 1) := by decide +kernel
theorem dPR_run_83 : decode mPR_run.2.1 83 = .ok (.invokevirtual 50, 3) := by decide +kernel
theorem dPR_run_86 : decode mPR_run.2.1 86 = .ok (.ifCond .ne 29, 3) := by decide +kernel
theorem dPR_run_89 : decode mPR_run.2.1 89 = .ok (.aload_n 0, 1) := by decide +kernel
theorem dPR_run_90 : decode mPR_run.2.1 90 = .ok (.iconst 3, 1) := by decide +kernel
theorem dPR_run_91 : decode mPR_run.2.1 91 = .ok (.aload_n 1, 1) := by decide +kernel
theorem dPR_run_92 : decode mPR_run.2.1 92 = .ok (.invokevirtual 54, 3) := by decide +kernel
theorem dPR_run_95 : decode mPR_run.2.1 95 = .ok (.ifCond .ne 20, 3) := by decide +kernel
theorem dPR_run_98 : decode mPR_run.2.1 98 = .ok (.aload_n 0, 1) := by decide +kernel
theorem dPR_run_99 : decode mPR_run.2.1 99 = .ok (.iconst 4, 1) := by decide +kernel
theorem dPR_run_100 : decode mPR_run.2.1 100 = .ok (.invokevirtual 50, 3) := by decide +kernel
theorem dPR_run_103 : decode mPR_run.2.1 103 = .ok (.ifCond .ne 12, 3) := by decide +kernel
theorem dPR_run_106 : decode mPR_run.2.1 106 = .ok (.aload_n 0, 1) := by decide +kernel
theorem dPR_run_107 : decode mPR_run.2.1 107 = .ok (.iconst 5, 1) := by decide +kernel
theorem dPR_run_108 : decode mPR_run.2.1 108 = .ok (.aload_n 1, 1) := by decide +kernel
theorem dPR_run_109 : decode mPR_run.2.1 109 = .ok (.invokevirtual 54, 3) := by decide +kernel
theorem dPR_run_112 : decode mPR_run.2.1 112 = .ok (.ifCond .eq 7, 3) := by decide +kernel
theorem dPR_run_115 : decode mPR_run.2.1 115 = .ok (.iconst 1, 1) := by decide +kernel
theorem dPR_run_116 : decode mPR_run.2.1 116 = .ok (.goto 4, 3) := by decide +kernel
theorem dPR_run_119 : decode mPR_run.2.1 119 = .ok (.iconst 0, 1) := by decide +kernel
theorem dPR_run_120 : decode mPR_run.2.1 120 = .ok (.istore_n 2, 1) := by decide +kernel
theorem dPR_run_121 : decode mPR_run.2.1 121 = .ok (.iinc 3 1, 3) := by decide +kernel
theorem dPR_run_124 : decode mPR_run.2.1 124 = .ok (.goto (-68), 3) := by decide +kernel
theorem dPR_run_127 : decode mPR_run.2.1 127 = .ok (.aload_n 0, 1) := by decide +kernel
theorem dPR_run_128 : decode mPR_run.2.1 128 = .ok (.invokevirtual 58, 3) := by decide +kernel
theorem dPR_run_131 : decode mPR_run.2.1 131 = .ok (.ifCond .ne 8, 3) := by decide +kernel
theorem dPR_run_134 : decode mPR_run.2.1 134 = .ok (.aload_n 0, 1) := by decide +kernel
theorem dPR_run_135 : decode mPR_run.2.1 135 = .ok (.iconst 0, 1) := by decide +kernel
theorem dPR_run_136 : decode mPR_run.2.1 136 = .ok (.putfield 37, 3) := by decide +kernel
theorem dPR_run_139 : decode mPR_run.2.1 139 = .ok (.return_, 1) := by decide +kernel
theorem dPR_bySort_0 : decode mPR_bySort.2.1 0 = .ok (.iconst 0, 1) := by decide +kernel
theorem dPR_bySort_1 : decode mPR_bySort.2.1 1 = .ok (.istore_n 2, 1) := by decide +kernel
theorem dPR_bySort_2 : decode mPR_bySort.2.1 2 = .ok (.iload_n 2, 1) := by decide +kernel
theorem dPR_bySort_3 : decode mPR_bySort.2.1 3 = .ok (.aload_n 0, 1) := by decide +kernel
theorem dPR_bySort_4 : decode mPR_bySort.2.1 4 = .ok (.getfield 31, 3) := by decide +kernel
theorem dPR_bySort_7 : decode mPR_bySort.2.1 7 = .ok (.if_icmp .ge 58, 3) := by decide +kernel
theorem dPR_bySort_10 : decode mPR_bySort.2.1 10 = .ok (.iload_n 2, 1) := by decide +kernel
theorem dPR_bySort_11 : decode mPR_bySort.2.1 11 = .ok (.aload_n 0, 1) := by decide +kernel
theorem dPR_bySort_12 : decode mPR_bySort.2.1 12 = .ok (.getfield 27, 3) := by decide +kernel
theorem dPR_bySort_15 : decode mPR_bySort.2.1 15 = .ok (.invokestatic 44, 3) := by decide +kernel
theorem dPR_bySort_18 : decode mPR_bySort.2.1 18 = .ok (.istore_n 3, 1) := by decide +kernel
theorem dPR_bySort_19 : decode mPR_bySort.2.1 19 = .ok (.aload_n 0, 1) := by decide +kernel
theorem dPR_bySort_20 : decode mPR_bySort.2.1 20 = .ok (.getfield 9, 3) := by decide +kernel
theorem dPR_bySort_23 : decode mPR_bySort.2.1 23 = .ok (.iload_n 3, 1) := by decide +kernel
theorem dPR_bySort_24 : decode mPR_bySort.2.1 24 = .ok (.iaload, 1) := by decide +kernel
theorem dPR_bySort_25 : decode mPR_bySort.2.1 25 = .ok (.aload_n 0, 1) := by decide +kernel
theorem dPR_bySort_26 : decode mPR_bySort.2.1 26 = .ok (.iload_n 1, 1) := by decide +kernel
theorem dPR_bySort_27 : decode mPR_bySort.2.1 27 = .ok (.iload_n 3, 1) := by decide +kernel
theorem dPR_bySort_28 : decode mPR_bySort.2.1 28 = .ok (.invokevirtual 68, 3) := by decide +kernel
theorem dPR_bySort_31 : decode mPR_bySort.2.1 31 = .ok (.iand, 1) := by decide +kernel
theorem dPR_bySort_32 : decode mPR_bySort.2.1 32 = .ok (.istore 4, 2) := by decide +kernel
theorem dPR_bySort_34 : decode mPR_bySort.2.1 34 = .ok (.iload 4, 2) := by decide +kernel
theorem dPR_bySort_36 : decode mPR_bySort.2.1 36 = .ok (.ifCond .eq 23, 3) := by decide +kernel
theorem dPR_bySort_39 : decode mPR_bySort.2.1 39 = .ok (.aload_n 0, 1) := by decide +kernel
theorem dPR_bySort_40 : decode mPR_bySort.2.1 40 = .ok (.iload_n 1, 1) := by decide +kernel
theorem dPR_bySort_41 : decode mPR_bySort.2.1 41 = .ok (.iconst (-1), 1) := by decide +kernel
theorem dPR_bySort_42 : decode mPR_bySort.2.1 42 = .ok (.iload_n 3, 1) := by decide +kernel
theorem dPR_bySort_43 : decode mPR_bySort.2.1 43 = .ok (.iload 4, 2) := by decide +kernel
theorem dPR_bySort_45 : decode mPR_bySort.2.1 45 = .ok (.iload 4, 2) := by decide +kernel
theorem dPR_bySort_47 : decode mPR_bySort.2.1 47 = .ok (.ineg, 1) := by decide +kernel
theorem dPR_bySort_48 : decode mPR_bySort.2.1 48 = .ok (.iand, 1) := by decide +kernel
theorem dPR_bySort_49 : decode mPR_bySort.2.1 49 = .ok (.iconst 1, 1) := by decide +kernel
theorem dPR_bySort_50 : decode mPR_bySort.2.1 50 = .ok (.isub, 1) := by decide +kernel
theorem dPR_bySort_51 : decode mPR_bySort.2.1 51 = .ok (.invokestatic 62, 3) := by decide +kernel
theorem dPR_bySort_54 : decode mPR_bySort.2.1 54 = .ok (.invokevirtual 71, 3) := by decide +kernel
theorem dPR_bySort_57 : decode mPR_bySort.2.1 57 = .ok (.iconst 1, 1) := by decide +kernel
theorem dPR_bySort_58 : decode mPR_bySort.2.1 58 = .ok (.ireturn, 1) := by decide +kernel
theorem dPR_bySort_59 : decode mPR_bySort.2.1 59 = .ok (.iinc 2 1, 3) := by decide +kernel
theorem dPR_bySort_62 : decode mPR_bySort.2.1 62 = .ok (.goto (-60), 3) := by decide +kernel
theorem dPR_bySort_65 : decode mPR_bySort.2.1 65 = .ok (.iconst 0, 1) := by decide +kernel
theorem dPR_bySort_66 : decode mPR_bySort.2.1 66 = .ok (.ireturn, 1) := by decide +kernel
theorem dPR_barred_0 : decode mPR_barred.2.1 0 = .ok (.iload_n 1, 1) := by decide +kernel
theorem dPR_barred_1 : decode mPR_barred.2.1 1 = .ok (.lookupswitch 39 #[(1, 27), (2, 33)], 27) := by decide +kernel
theorem dPR_barred_28 : decode mPR_barred.2.1 28 = .ok (.aload_n 0, 1) := by decide +kernel
theorem dPR_barred_29 : decode mPR_barred.2.1 29 = .ok (.iload_n 2, 1) := by decide +kernel
theorem dPR_barred_30 : decode mPR_barred.2.1 30 = .ok (.invokevirtual 75, 3) := by decide +kernel
theorem dPR_barred_33 : decode mPR_barred.2.1 33 = .ok (.ireturn, 1) := by decide +kernel
theorem dPR_barred_34 : decode mPR_barred.2.1 34 = .ok (.aload_n 0, 1) := by decide +kernel
theorem dPR_barred_35 : decode mPR_barred.2.1 35 = .ok (.iload_n 2, 1) := by decide +kernel
theorem dPR_barred_36 : decode mPR_barred.2.1 36 = .ok (.invokevirtual 78, 3) := by decide +kernel
theorem dPR_barred_39 : decode mPR_barred.2.1 39 = .ok (.ireturn, 1) := by decide +kernel
theorem dPR_barred_40 : decode mPR_barred.2.1 40 = .ok (.aload_n 0, 1) := by decide +kernel
theorem dPR_barred_41 : decode mPR_barred.2.1 41 = .ok (.iload_n 2, 1) := by decide +kernel
theorem dPR_barred_42 : decode mPR_barred.2.1 42 = .ok (.invokevirtual 81, 3) := by decide +kernel
theorem dPR_barred_45 : decode mPR_barred.2.1 45 = .ok (.ireturn, 1) := by decide +kernel
theorem dPR_barredByLone_0 : decode mPR_barredByLone.2.1 0 = .ok (.iconst 0, 1) := by decide +kernel
theorem dPR_barredByLone_1 : decode mPR_barredByLone.2.1 1 = .ok (.istore_n 2, 1) := by decide +kernel
theorem dPR_barredByLone_2 : decode mPR_barredByLone.2.1 2 = .ok (.iload_n 1, 1) := by decide +kernel
theorem dPR_barredByLone_3 : decode mPR_barredByLone.2.1 3 = .ok (.iload_n 1, 1) := by decide +kernel
theorem dPR_barredByLone_4 : decode mPR_barredByLone.2.1 4 = .ok (.bipush 10, 2) := by decide +kernel
theorem dPR_barredByLone_6 : decode mPR_barredByLone.2.1 6 = .ok (.irem, 1) := by decide +kernel
theorem dPR_barredByLone_7 : decode mPR_barredByLone.2.1 7 = .ok (.isub, 1) := by decide +kernel
theorem dPR_barredByLone_8 : decode mPR_barredByLone.2.1 8 = .ok (.istore_n 3, 1) := by decide +kernel
theorem dPR_barredByLone_9 : decode mPR_barredByLone.2.1 9 = .ok (.iload_n 3, 1) := by decide +kernel
theorem dPR_barredByLone_10 : decode mPR_barredByLone.2.1 10 = .ok (.istore 4, 2) := by decide +kernel
theorem dPR_barredByLone_12 : decode mPR_barredByLone.2.1 12 = .ok (.iload 4, 2) := by decide +kernel
theorem dPR_barredByLone_14 : decode mPR_barredByLone.2.1 14 = .ok (.iload_n 3, 1) := by decide +kernel
theorem dPR_barredByLone_15 : decode mPR_barredByLone.2.1 15 = .ok (.aload_n 0, 1) := by decide +kernel
theorem dPR_barredByLone_16 : decode mPR_barredByLone.2.1 16 = .ok (.getfield 27, 3) := by decide +kernel
theorem dPR_barredByLone_19 : decode mPR_barredByLone.2.1 19 = .ok (.iadd, 1) := by decide +kernel
theorem dPR_barredByLone_20 : decode mPR_barredByLone.2.1 20 = .ok (.if_icmp .ge 39, 3) := by decide +kernel
theorem dPR_barredByLone_23 : decode mPR_barredByLone.2.1 23 = .ok (.iload 4, 2) := by decide +kernel
theorem dPR_barredByLone_25 : decode mPR_barredByLone.2.1 25 = .ok (.iload_n 1, 1) := by decide +kernel
theorem dPR_barredByLone_26 : decode mPR_barredByLone.2.1 26 = .ok (.if_icmp .eq 27, 3) := by decide +kernel
theorem dPR_barredByLone_29 : decode mPR_barredByLone.2.1 29 = .ok (.aload_n 0, 1) := by decide +kernel
theorem dPR_barredByLone_30 : decode mPR_barredByLone.2.1 30 = .ok (.getfield 9, 3) := by decide +kernel
theorem dPR_barredByLone_33 : decode mPR_barredByLone.2.1 33 = .ok (.iload 4, 2) := by decide +kernel
theorem dPR_barredByLone_35 : decode mPR_barredByLone.2.1 35 = .ok (.iaload, 1) := by decide +kernel
theorem dPR_barredByLone_36 : decode mPR_barredByLone.2.1 36 = .ok (.invokestatic 62, 3) := by decide +kernel
theorem dPR_barredByLone_39 : decode mPR_barredByLone.2.1 39 = .ok (.iconst 1, 1) := by decide +kernel
theorem dPR_barredByLone_40 : decode mPR_barredByLone.2.1 40 = .ok (.if_icmp .ne 13, 3) := by decide +kernel
theorem dPR_barredByLone_43 : decode mPR_barredByLone.2.1 43 = .ok (.iload_n 2, 1) := by decide +kernel
theorem dPR_barredByLone_44 : decode mPR_barredByLone.2.1 44 = .ok (.aload_n 0, 1) := by decide +kernel
theorem dPR_barredByLone_45 : decode mPR_barredByLone.2.1 45 = .ok (.getfield 9, 3) := by decide +kernel
theorem dPR_barredByLone_48 : decode mPR_barredByLone.2.1 48 = .ok (.iload 4, 2) := by decide +kernel
theorem dPR_barredByLone_50 : decode mPR_barredByLone.2.1 50 = .ok (.iaload, 1) := by decide +kernel
theorem dPR_barredByLone_51 : decode mPR_barredByLone.2.1 51 = .ok (.ior, 1) := by decide +kernel
theorem dPR_barredByLone_52 : decode mPR_barredByLone.2.1 52 = .ok (.istore_n 2, 1) := by decide +kernel
theorem dPR_barredByLone_53 : decode mPR_barredByLone.2.1 53 = .ok (.iinc 4 1, 3) := by decide +kernel
theorem dPR_barredByLone_56 : decode mPR_barredByLone.2.1 56 = .ok (.goto (-44), 3) := by decide +kernel
theorem dPR_barredByLone_59 : decode mPR_barredByLone.2.1 59 = .ok (.iload_n 2, 1) := by decide +kernel
theorem dPR_barredByLone_60 : decode mPR_barredByLone.2.1 60 = .ok (.ireturn, 1) := by decide +kernel
theorem dPR_barredByOwn_0 : decode mPR_barredByOwn.2.1 0 = .ok (.aload_n 0, 1) := by decide +kernel
theorem dPR_barredByOwn_1 : decode mPR_barredByOwn.2.1 1 = .ok (.getfield 9, 3) := by decide +kernel
theorem dPR_barredByOwn_4 : decode mPR_barredByOwn.2.1 4 = .ok (.iload_n 1, 1) := by decide +kernel
theorem dPR_barredByOwn_5 : decode mPR_barredByOwn.2.1 5 = .ok (.iaload, 1) := by decide +kernel
theorem dPR_barredByOwn_6 : decode mPR_barredByOwn.2.1 6 = .ok (.istore_n 2, 1) := by decide +kernel
theorem dPR_barredByOwn_7 : decode mPR_barredByOwn.2.1 7 = .ok (.iload_n 1, 1) := by decide +kernel
theorem dPR_barredByOwn_8 : decode mPR_barredByOwn.2.1 8 = .ok (.iload_n 1, 1) := by decide +kernel
theorem dPR_barredByOwn_9 : decode mPR_barredByOwn.2.1 9 = .ok (.bipush 10, 2) := by decide +kernel
theorem dPR_barredByOwn_11 : decode mPR_barredByOwn.2.1 11 = .ok (.irem, 1) := by decide +kernel
theorem dPR_barredByOwn_12 : decode mPR_barredByOwn.2.1 12 = .ok (.isub, 1) := by decide +kernel
theorem dPR_barredByOwn_13 : decode mPR_barredByOwn.2.1 13 = .ok (.istore_n 3, 1) := by decide +kernel
theorem dPR_barredByOwn_14 : decode mPR_barredByOwn.2.1 14 = .ok (.iload_n 3, 1) := by decide +kernel
theorem dPR_barredByOwn_15 : decode mPR_barredByOwn.2.1 15 = .ok (.istore 4, 2) := by decide +kernel
theorem dPR_barredByOwn_17 : decode mPR_barredByOwn.2.1 17 = .ok (.iload 4, 2) := by decide +kernel
theorem dPR_barredByOwn_19 : decode mPR_barredByOwn.2.1 19 = .ok (.iload_n 3, 1) := by decide +kernel
theorem dPR_barredByOwn_20 : decode mPR_barredByOwn.2.1 20 = .ok (.aload_n 0, 1) := by decide +kernel
theorem dPR_barredByOwn_21 : decode mPR_barredByOwn.2.1 21 = .ok (.getfield 27, 3) := by decide +kernel
theorem dPR_barredByOwn_24 : decode mPR_barredByOwn.2.1 24 = .ok (.iadd, 1) := by decide +kernel
theorem dPR_barredByOwn_25 : decode mPR_barredByOwn.2.1 25 = .ok (.if_icmp .ge 27, 3) := by decide +kernel
theorem dPR_barredByOwn_28 : decode mPR_barredByOwn.2.1 28 = .ok (.iload 4, 2) := by decide +kernel
theorem dPR_barredByOwn_30 : decode mPR_barredByOwn.2.1 30 = .ok (.iload_n 1, 1) := by decide +kernel
theorem dPR_barredByOwn_31 : decode mPR_barredByOwn.2.1 31 = .ok (.if_icmp .eq 15, 3) := by decide +kernel
theorem dPR_barredByOwn_34 : decode mPR_barredByOwn.2.1 34 = .ok (.iload_n 2, 1) := by decide +kernel
theorem dPR_barredByOwn_35 : decode mPR_barredByOwn.2.1 35 = .ok (.aload_n 0, 1) := by decide +kernel
theorem dPR_barredByOwn_36 : decode mPR_barredByOwn.2.1 36 = .ok (.getfield 9, 3) := by decide +kernel
theorem dPR_barredByOwn_39 : decode mPR_barredByOwn.2.1 39 = .ok (.iload 4, 2) := by decide +kernel
theorem dPR_barredByOwn_41 : decode mPR_barredByOwn.2.1 41 = .ok (.iaload, 1) := by decide +kernel
theorem dPR_barredByOwn_42 : decode mPR_barredByOwn.2.1 42 = .ok (.iconst (-1), 1) := by decide +kernel
theorem dPR_barredByOwn_43 : decode mPR_barredByOwn.2.1 43 = .ok (.ixor, 1) := by decide +kernel
theorem dPR_barredByOwn_44 : decode mPR_barredByOwn.2.1 44 = .ok (.iand, 1) := by decide +kernel
theorem dPR_barredByOwn_45 : decode mPR_barredByOwn.2.1 45 = .ok (.istore_n 2, 1) := by decide +kernel
theorem dPR_barredByOwn_46 : decode mPR_barredByOwn.2.1 46 = .ok (.iinc 4 1, 3) := by decide +kernel
theorem dPR_barredByOwn_49 : decode mPR_barredByOwn.2.1 49 = .ok (.goto (-32), 3) := by decide +kernel
theorem dPR_barredByOwn_52 : decode mPR_barredByOwn.2.1 52 = .ok (.iload_n 2, 1) := by decide +kernel
theorem dPR_barredByOwn_53 : decode mPR_barredByOwn.2.1 53 = .ok (.ifCond .ne 5, 3) := by decide +kernel
theorem dPR_barredByOwn_56 : decode mPR_barredByOwn.2.1 56 = .ok (.iconst 0, 1) := by decide +kernel
theorem dPR_barredByOwn_57 : decode mPR_barredByOwn.2.1 57 = .ok (.ireturn, 1) := by decide +kernel
theorem dPR_barredByOwn_58 : decode mPR_barredByOwn.2.1 58 = .ok (.iload_n 2, 1) := by decide +kernel
theorem dPR_barredByOwn_59 : decode mPR_barredByOwn.2.1 59 = .ok (.invokestatic 62, 3) := by decide +kernel
theorem dPR_barredByOwn_62 : decode mPR_barredByOwn.2.1 62 = .ok (.iconst 1, 1) := by decide +kernel
theorem dPR_barredByOwn_63 : decode mPR_barredByOwn.2.1 63 = .ok (.if_icmp .ne 9, 3) := by decide +kernel
theorem dPR_barredByOwn_66 : decode mPR_barredByOwn.2.1 66 = .ok (.iload_n 2, 1) := by decide +kernel
theorem dPR_barredByOwn_67 : decode mPR_barredByOwn.2.1 67 = .ok (.iconst (-1), 1) := by decide +kernel
theorem dPR_barredByOwn_68 : decode mPR_barredByOwn.2.1 68 = .ok (.ixor, 1) := by decide +kernel
theorem dPR_barredByOwn_69 : decode mPR_barredByOwn.2.1 69 = .ok (.goto 4, 3) := by decide +kernel
theorem dPR_barredByOwn_72 : decode mPR_barredByOwn.2.1 72 = .ok (.iconst (-1), 1) := by decide +kernel
theorem dPR_barredByOwn_73 : decode mPR_barredByOwn.2.1 73 = .ok (.ireturn, 1) := by decide +kernel
theorem dPR_barredByPairs_0 : decode mPR_barredByPairs.2.1 0 = .ok (.iconst 0, 1) := by decide +kernel
theorem dPR_barredByPairs_1 : decode mPR_barredByPairs.2.1 1 = .ok (.istore_n 2, 1) := by decide +kernel
theorem dPR_barredByPairs_2 : decode mPR_barredByPairs.2.1 2 = .ok (.iload_n 1, 1) := by decide +kernel
theorem dPR_barredByPairs_3 : decode mPR_barredByPairs.2.1 3 = .ok (.iload_n 1, 1) := by decide +kernel
theorem dPR_barredByPairs_4 : decode mPR_barredByPairs.2.1 4 = .ok (.bipush 10, 2) := by decide +kernel
theorem dPR_barredByPairs_6 : decode mPR_barredByPairs.2.1 6 = .ok (.irem, 1) := by decide +kernel
theorem dPR_barredByPairs_7 : decode mPR_barredByPairs.2.1 7 = .ok (.isub, 1) := by decide +kernel
theorem dPR_barredByPairs_8 : decode mPR_barredByPairs.2.1 8 = .ok (.istore_n 3, 1) := by decide +kernel
theorem dPR_barredByPairs_9 : decode mPR_barredByPairs.2.1 9 = .ok (.iload_n 3, 1) := by decide +kernel
theorem dPR_barredByPairs_10 : decode mPR_barredByPairs.2.1 10 = .ok (.istore 4, 2) := by decide +kernel
theorem dPR_barredByPairs_12 : decode mPR_barredByPairs.2.1 12 = .ok (.iload 4, 2) := by decide +kernel
theorem dPR_barredByPairs_14 : decode mPR_barredByPairs.2.1 14 = .ok (.iload_n 3, 1) := by decide +kernel
theorem dPR_barredByPairs_15 : decode mPR_barredByPairs.2.1 15 = .ok (.aload_n 0, 1) := by decide +kernel
theorem dPR_barredByPairs_16 : decode mPR_barredByPairs.2.1 16 = .ok (.getfield 27, 3) := by decide +kernel
theorem dPR_barredByPairs_19 : decode mPR_barredByPairs.2.1 19 = .ok (.iadd, 1) := by decide +kernel
theorem dPR_barredByPairs_20 : decode mPR_barredByPairs.2.1 20 = .ok (.if_icmp .ge 88, 3) := by decide +kernel
theorem dPR_barredByPairs_23 : decode mPR_barredByPairs.2.1 23 = .ok (.iload 4, 2) := by decide +kernel
theorem dPR_barredByPairs_25 : decode mPR_barredByPairs.2.1 25 = .ok (.iload_n 1, 1) := by decide +kernel
theorem dPR_barredByPairs_26 : decode mPR_barredByPairs.2.1 26 = .ok (.if_icmp .eq 76, 3) := by decide +kernel
theorem dPR_barredByPairs_29 : decode mPR_barredByPairs.2.1 29 = .ok (.aload_n 0, 1) := by decide +kernel
theorem dPR_barredByPairs_30 : decode mPR_barredByPairs.2.1 30 = .ok (.getfield 9, 3) := by decide +kernel
theorem dPR_barredByPairs_33 : decode mPR_barredByPairs.2.1 33 = .ok (.iload 4, 2) := by decide +kernel
theorem dPR_barredByPairs_35 : decode mPR_barredByPairs.2.1 35 = .ok (.iaload, 1) := by decide +kernel
theorem dPR_barredByPairs_36 : decode mPR_barredByPairs.2.1 36 = .ok (.invokestatic 62, 3) := by decide +kernel
theorem dPR_barredByPairs_39 : decode mPR_barredByPairs.2.1 39 = .ok (.iconst 2, 1) := by decide +kernel
theorem dPR_barredByPairs_40 : decode mPR_barredByPairs.2.1 40 = .ok (.if_icmp .eq 6, 3) := by decide +kernel
theorem dPR_barredByPairs_43 : decode mPR_barredByPairs.2.1 43 = .ok (.goto 59, 3) := by decide +kernel
theorem dPR_barredByPairs_46 : decode mPR_barredByPairs.2.1 46 = .ok (.iload 4, 2) := by decide +kernel
theorem dPR_barredByPairs_48 : decode mPR_barredByPairs.2.1 48 = .ok (.iconst 1, 1) := by decide +kernel
theorem dPR_barredByPairs_49 : decode mPR_barredByPairs.2.1 49 = .ok (.iadd, 1) := by decide +kernel
theorem dPR_barredByPairs_50 : decode mPR_barredByPairs.2.1 50 = .ok (.istore 5, 2) := by decide +kernel
theorem dPR_barredByPairs_52 : decode mPR_barredByPairs.2.1 52 = .ok (.iload 5, 2) := by decide +kernel
theorem dPR_barredByPairs_54 : decode mPR_barredByPairs.2.1 54 = .ok (.iload_n 3, 1) := by decide +kernel
theorem dPR_barredByPairs_55 : decode mPR_barredByPairs.2.1 55 = .ok (.aload_n 0, 1) := by decide +kernel
theorem dPR_barredByPairs_56 : decode mPR_barredByPairs.2.1 56 = .ok (.getfield 27, 3) := by decide +kernel
theorem dPR_barredByPairs_59 : decode mPR_barredByPairs.2.1 59 = .ok (.iadd, 1) := by decide +kernel
theorem dPR_barredByPairs_60 : decode mPR_barredByPairs.2.1 60 = .ok (.if_icmp .ge 42, 3) := by decide +kernel
theorem dPR_barredByPairs_63 : decode mPR_barredByPairs.2.1 63 = .ok (.iload 5, 2) := by decide +kernel
theorem dPR_barredByPairs_65 : decode mPR_barredByPairs.2.1 65 = .ok (.iload_n 1, 1) := by decide +kernel
theorem dPR_barredByPairs_66 : decode mPR_barredByPairs.2.1 66 = .ok (.if_icmp .eq 30, 3) := by decide +kernel
theorem dPR_barredByPairs_69 : decode mPR_barredByPairs.2.1 69 = .ok (.aload_n 0, 1) := by decide +kernel
theorem dPR_barredByPairs_70 : decode mPR_barredByPairs.2.1 70 = .ok (.getfield 9, 3) := by decide +kernel
theorem dPR_barredByPairs_73 : decode mPR_barredByPairs.2.1 73 = .ok (.iload 5, 2) := by decide +kernel
theorem dPR_barredByPairs_75 : decode mPR_barredByPairs.2.1 75 = .ok (.iaload, 1) := by decide +kernel
theorem dPR_barredByPairs_76 : decode mPR_barredByPairs.2.1 76 = .ok (.aload_n 0, 1) := by decide +kernel
theorem dPR_barredByPairs_77 : decode mPR_barredByPairs.2.1 77 = .ok (.getfield 9, 3) := by decide +kernel
theorem dPR_barredByPairs_80 : decode mPR_barredByPairs.2.1 80 = .ok (.iload 4, 2) := by decide +kernel
theorem dPR_barredByPairs_82 : decode mPR_barredByPairs.2.1 82 = .ok (.iaload, 1) := by decide +kernel
theorem dPR_barredByPairs_83 : decode mPR_barredByPairs.2.1 83 = .ok (.if_icmp .ne 13, 3) := by decide +kernel
theorem dPR_barredByPairs_86 : decode mPR_barredByPairs.2.1 86 = .ok (.iload_n 2, 1) := by decide +kernel
theorem dPR_barredByPairs_87 : decode mPR_barredByPairs.2.1 87 = .ok (.aload_n 0, 1) := by decide +kernel
theorem dPR_barredByPairs_88 : decode mPR_barredByPairs.2.1 88 = .ok (.getfield 9, 3) := by decide +kernel
theorem dPR_barredByPairs_91 : decode mPR_barredByPairs.2.1 91 = .ok (.iload 4, 2) := by decide +kernel
theorem dPR_barredByPairs_93 : decode mPR_barredByPairs.2.1 93 = .ok (.iaload, 1) := by decide +kernel
theorem dPR_barredByPairs_94 : decode mPR_barredByPairs.2.1 94 = .ok (.ior, 1) := by decide +kernel
theorem dPR_barredByPairs_95 : decode mPR_barredByPairs.2.1 95 = .ok (.istore_n 2, 1) := by decide +kernel
theorem dPR_barredByPairs_96 : decode mPR_barredByPairs.2.1 96 = .ok (.iinc 5 1, 3) := by decide +kernel
theorem dPR_barredByPairs_99 : decode mPR_barredByPairs.2.1 99 = .ok (.goto (-47), 3) := by decide +kernel
theorem dPR_barredByPairs_102 : decode mPR_barredByPairs.2.1 102 = .ok (.iinc 4 1, 3) := by decide +kernel
theorem dPR_barredByPairs_105 : decode mPR_barredByPairs.2.1 105 = .ok (.goto (-93), 3) := by decide +kernel
theorem dPR_barredByPairs_108 : decode mPR_barredByPairs.2.1 108 = .ok (.iload_n 2, 1) := by decide +kernel
theorem dPR_barredByPairs_109 : decode mPR_barredByPairs.2.1 109 = .ok (.ireturn, 1) := by decide +kernel
theorem dPR_take_0 : decode mPR_take.2.1 0 = .ok (.aload_n 0, 1) := by decide +kernel
theorem dPR_take_1 : decode mPR_take.2.1 1 = .ok (.getfield 34, 3) := by decide +kernel
theorem dPR_take_4 : decode mPR_take.2.1 4 = .ok (.bipush 50, 2) := by decide +kernel
theorem dPR_take_6 : decode mPR_take.2.1 6 = .ok (.if_icmp .ge 54, 3) := by decide +kernel
theorem dPR_take_9 : decode mPR_take.2.1 9 = .ok (.aload_n 0, 1) := by decide +kernel
theorem dPR_take_10 : decode mPR_take.2.1 10 = .ok (.getfield 15, 3) := by decide +kernel
theorem dPR_take_13 : decode mPR_take.2.1 13 = .ok (.aload_n 0, 1) := by decide +kernel
theorem dPR_take_14 : decode mPR_take.2.1 14 = .ok (.getfield 34, 3) := by decide +kernel
theorem dPR_take_17 : decode mPR_take.2.1 17 = .ok (.iload_n 1, 1) := by decide +kernel
theorem dPR_take_18 : decode mPR_take.2.1 18 = .ok (.iastore, 1) := by decide +kernel
theorem dPR_take_19 : decode mPR_take.2.1 19 = .ok (.aload_n 0, 1) := by decide +kernel
theorem dPR_take_20 : decode mPR_take.2.1 20 = .ok (.getfield 18, 3) := by decide +kernel
theorem dPR_take_23 : decode mPR_take.2.1 23 = .ok (.aload_n 0, 1) := by decide +kernel
theorem dPR_take_24 : decode mPR_take.2.1 24 = .ok (.getfield 34, 3) := by decide +kernel
theorem dPR_take_27 : decode mPR_take.2.1 27 = .ok (.iload_n 2, 1) := by decide +kernel
theorem dPR_take_28 : decode mPR_take.2.1 28 = .ok (.iastore, 1) := by decide +kernel
theorem dPR_take_29 : decode mPR_take.2.1 29 = .ok (.aload_n 0, 1) := by decide +kernel
theorem dPR_take_30 : decode mPR_take.2.1 30 = .ok (.getfield 21, 3) := by decide +kernel
theorem dPR_take_33 : decode mPR_take.2.1 33 = .ok (.aload_n 0, 1) := by decide +kernel
theorem dPR_take_34 : decode mPR_take.2.1 34 = .ok (.getfield 34, 3) := by decide +kernel
theorem dPR_take_37 : decode mPR_take.2.1 37 = .ok (.iload_n 3, 1) := by decide +kernel
theorem dPR_take_38 : decode mPR_take.2.1 38 = .ok (.iastore, 1) := by decide +kernel
theorem dPR_take_39 : decode mPR_take.2.1 39 = .ok (.aload_n 0, 1) := by decide +kernel
theorem dPR_take_40 : decode mPR_take.2.1 40 = .ok (.getfield 24, 3) := by decide +kernel
theorem dPR_take_43 : decode mPR_take.2.1 43 = .ok (.aload_n 0, 1) := by decide +kernel
theorem dPR_take_44 : decode mPR_take.2.1 44 = .ok (.getfield 34, 3) := by decide +kernel
theorem dPR_take_47 : decode mPR_take.2.1 47 = .ok (.iload 4, 2) := by decide +kernel
theorem dPR_take_49 : decode mPR_take.2.1 49 = .ok (.iastore, 1) := by decide +kernel
theorem dPR_take_50 : decode mPR_take.2.1 50 = .ok (.aload_n 0, 1) := by decide +kernel
theorem dPR_take_51 : decode mPR_take.2.1 51 = .ok (.dup, 1) := by decide +kernel
theorem dPR_take_52 : decode mPR_take.2.1 52 = .ok (.getfield 34, 3) := by decide +kernel
theorem dPR_take_55 : decode mPR_take.2.1 55 = .ok (.iconst 1, 1) := by decide +kernel
theorem dPR_take_56 : decode mPR_take.2.1 56 = .ok (.iadd, 1) := by decide +kernel
theorem dPR_take_57 : decode mPR_take.2.1 57 = .ok (.putfield 34, 3) := by decide +kernel
theorem dPR_take_60 : decode mPR_take.2.1 60 = .ok (.aload_n 0, 1) := by decide +kernel
theorem dPR_take_61 : decode mPR_take.2.1 61 = .ok (.getfield 9, 3) := by decide +kernel
theorem dPR_take_64 : decode mPR_take.2.1 64 = .ok (.iload_n 3, 1) := by decide +kernel
theorem dPR_take_65 : decode mPR_take.2.1 65 = .ok (.dup2, 1) := by decide +kernel
theorem dPR_take_66 : decode mPR_take.2.1 66 = .ok (.iaload, 1) := by decide +kernel
theorem dPR_take_67 : decode mPR_take.2.1 67 = .ok (.iconst 1, 1) := by decide +kernel
theorem dPR_take_68 : decode mPR_take.2.1 68 = .ok (.iload 4, 2) := by decide +kernel
theorem dPR_take_70 : decode mPR_take.2.1 70 = .ok (.ishl, 1) := by decide +kernel
theorem dPR_take_71 : decode mPR_take.2.1 71 = .ok (.iconst (-1), 1) := by decide +kernel
theorem dPR_take_72 : decode mPR_take.2.1 72 = .ok (.ixor, 1) := by decide +kernel
theorem dPR_take_73 : decode mPR_take.2.1 73 = .ok (.iand, 1) := by decide +kernel
theorem dPR_take_74 : decode mPR_take.2.1 74 = .ok (.iastore, 1) := by decide +kernel
theorem dPR_take_75 : decode mPR_take.2.1 75 = .ok (.aload_n 0, 1) := by decide +kernel
theorem dPR_take_76 : decode mPR_take.2.1 76 = .ok (.aload_n 0, 1) := by decide +kernel
theorem dPR_take_77 : decode mPR_take.2.1 77 = .ok (.getfield 9, 3) := by decide +kernel
theorem dPR_take_80 : decode mPR_take.2.1 80 = .ok (.iload_n 3, 1) := by decide +kernel
theorem dPR_take_81 : decode mPR_take.2.1 81 = .ok (.iaload, 1) := by decide +kernel
theorem dPR_take_82 : decode mPR_take.2.1 82 = .ok (.ifCond .ne 7, 3) := by decide +kernel
theorem dPR_take_85 : decode mPR_take.2.1 85 = .ok (.iconst 1, 1) := by decide +kernel
theorem dPR_take_86 : decode mPR_take.2.1 86 = .ok (.goto 4, 3) := by decide +kernel
theorem dPR_take_89 : decode mPR_take.2.1 89 = .ok (.iconst 0, 1) := by decide +kernel
theorem dPR_take_90 : decode mPR_take.2.1 90 = .ok (.putfield 40, 3) := by decide +kernel
theorem dPR_take_93 : decode mPR_take.2.1 93 = .ok (.aload_n 0, 1) := by decide +kernel
theorem dPR_take_94 : decode mPR_take.2.1 94 = .ok (.aload_n 0, 1) := by decide +kernel
theorem dPR_take_95 : decode mPR_take.2.1 95 = .ok (.getfield 37, 3) := by decide +kernel
theorem dPR_take_98 : decode mPR_take.2.1 98 = .ok (.iload_n 1, 1) := by decide +kernel
theorem dPR_take_99 : decode mPR_take.2.1 99 = .ok (.invokestatic 131, 3) := by decide +kernel
theorem dPR_take_102 : decode mPR_take.2.1 102 = .ok (.putfield 37, 3) := by decide +kernel
theorem dPR_take_105 : decode mPR_take.2.1 105 = .ok (.return_, 1) := by decide +kernel
theorem dPR_byClues_0 : decode mPR_byClues.2.1 0 = .ok (.iconst 0, 1) := by decide +kernel
theorem dPR_byClues_1 : decode mPR_byClues.2.1 1 = .ok (.istore_n 3, 1) := by decide +kernel
theorem dPR_byClues_2 : decode mPR_byClues.2.1 2 = .ok (.iload_n 3, 1) := by decide +kernel
theorem dPR_byClues_3 : decode mPR_byClues.2.1 3 = .ok (.aload_n 2, 1) := by decide +kernel
theorem dPR_byClues_4 : decode mPR_byClues.2.1 4 = .ok (.getfield 84, 3) := by decide +kernel
theorem dPR_byClues_7 : decode mPR_byClues.2.1 7 = .ok (.if_icmp .ge 63, 3) := by decide +kernel
theorem dPR_byClues_10 : decode mPR_byClues.2.1 10 = .ok (.aload_n 2, 1) := by decide +kernel
theorem dPR_byClues_11 : decode mPR_byClues.2.1 11 = .ok (.getfield 89, 3) := by decide +kernel
theorem dPR_byClues_14 : decode mPR_byClues.2.1 14 = .ok (.iload_n 3, 1) := by decide +kernel
theorem dPR_byClues_15 : decode mPR_byClues.2.1 15 = .ok (.iaload, 1) := by decide +kernel
theorem dPR_byClues_16 : decode mPR_byClues.2.1 16 = .ok (.istore 4, 2) := by decide +kernel
theorem dPR_byClues_18 : decode mPR_byClues.2.1 18 = .ok (.iload 4, 2) := by decide +kernel
theorem dPR_byClues_20 : decode mPR_byClues.2.1 20 = .ok (.invokestatic 92, 3) := by decide +kernel
theorem dPR_byClues_23 : decode mPR_byClues.2.1 23 = .ok (.iconst (-1), 1) := by decide +kernel
theorem dPR_byClues_24 : decode mPR_byClues.2.1 24 = .ok (.if_icmp .ne 19, 3) := by decide +kernel
theorem dPR_byClues_27 : decode mPR_byClues.2.1 27 = .ok (.iload 4, 2) := by decide +kernel
theorem dPR_byClues_29 : decode mPR_byClues.2.1 29 = .ok (.invokestatic 95, 3) := by decide +kernel
theorem dPR_byClues_32 : decode mPR_byClues.2.1 32 = .ok (.invokestatic 98, 3) := by decide +kernel
theorem dPR_byClues_35 : decode mPR_byClues.2.1 35 = .ok (.iload_n 1, 1) := by decide +kernel
theorem dPR_byClues_36 : decode mPR_byClues.2.1 36 = .ok (.if_icmp .ne 7, 3) := by decide +kernel
theorem dPR_byClues_39 : decode mPR_byClues.2.1 39 = .ok (.iconst 1, 1) := by decide +kernel
theorem dPR_byClues_40 : decode mPR_byClues.2.1 40 = .ok (.goto 4, 3) := by decide +kernel
theorem dPR_byClues_43 : decode mPR_byClues.2.1 43 = .ok (.iconst 0, 1) := by decide +kernel
theorem dPR_byClues_44 : decode mPR_byClues.2.1 44 = .ok (.istore 5, 2) := by decide +kernel
theorem dPR_byClues_46 : decode mPR_byClues.2.1 46 = .ok (.iload 5, 2) := by decide +kernel
theorem dPR_byClues_48 : decode mPR_byClues.2.1 48 = .ok (.ifCond .eq 16, 3) := by decide +kernel
theorem dPR_byClues_51 : decode mPR_byClues.2.1 51 = .ok (.aload_n 0, 1) := by decide +kernel
theorem dPR_byClues_52 : decode mPR_byClues.2.1 52 = .ok (.iload_n 1, 1) := by decide +kernel
theorem dPR_byClues_53 : decode mPR_byClues.2.1 53 = .ok (.iload_n 3, 1) := by decide +kernel
theorem dPR_byClues_54 : decode mPR_byClues.2.1 54 = .ok (.iload 4, 2) := by decide +kernel
theorem dPR_byClues_56 : decode mPR_byClues.2.1 56 = .ok (.invokevirtual 101, 3) := by decide +kernel
theorem dPR_byClues_59 : decode mPR_byClues.2.1 59 = .ok (.ifCond .eq 5, 3) := by decide +kernel
theorem dPR_byClues_62 : decode mPR_byClues.2.1 62 = .ok (.iconst 1, 1) := by decide +kernel
theorem dPR_byClues_63 : decode mPR_byClues.2.1 63 = .ok (.ireturn, 1) := by decide +kernel
theorem dPR_byClues_64 : decode mPR_byClues.2.1 64 = .ok (.iinc 3 1, 3) := by decide +kernel
theorem dPR_byClues_67 : decode mPR_byClues.2.1 67 = .ok (.goto (-65), 3) := by decide +kernel
theorem dPR_byClues_70 : decode mPR_byClues.2.1 70 = .ok (.iconst 0, 1) := by decide +kernel
theorem dPR_byClues_71 : decode mPR_byClues.2.1 71 = .ok (.ireturn, 1) := by decide +kernel
theorem dPR_byClue_0 : decode mPR_byClue.2.1 0 = .ok (.iload_n 3, 1) := by decide +kernel
theorem dPR_byClue_1 : decode mPR_byClue.2.1 1 = .ok (.iconst 0, 1) := by decide +kernel
theorem dPR_byClue_2 : decode mPR_byClue.2.1 2 = .ok (.invokestatic 105, 3) := by decide +kernel
theorem dPR_byClue_5 : decode mPR_byClue.2.1 5 = .ok (.istore 4, 2) := by decide +kernel
theorem dPR_byClue_7 : decode mPR_byClue.2.1 7 = .ok (.iconst 0, 1) := by decide +kernel
theorem dPR_byClue_8 : decode mPR_byClue.2.1 8 = .ok (.istore 5, 2) := by decide +kernel
theorem dPR_byClue_10 : decode mPR_byClue.2.1 10 = .ok (.iload 5, 2) := by decide +kernel
theorem dPR_byClue_12 : decode mPR_byClue.2.1 12 = .ok (.iconst 3, 1) := by decide +kernel
theorem dPR_byClue_13 : decode mPR_byClue.2.1 13 = .ok (.if_icmp .ge 80, 3) := by decide +kernel
theorem dPR_byClue_16 : decode mPR_byClue.2.1 16 = .ok (.iload 4, 2) := by decide +kernel
theorem dPR_byClue_18 : decode mPR_byClue.2.1 18 = .ok (.iconst (-1), 1) := by decide +kernel
theorem dPR_byClue_19 : decode mPR_byClue.2.1 19 = .ok (.if_icmp .eq 74, 3) := by decide +kernel
theorem dPR_byClue_22 : decode mPR_byClue.2.1 22 = .ok (.iconst 0, 1) := by decide +kernel
theorem dPR_byClue_23 : decode mPR_byClue.2.1 23 = .ok (.istore 6, 2) := by decide +kernel
theorem dPR_byClue_25 : decode mPR_byClue.2.1 25 = .ok (.iload 6, 2) := by decide +kernel
theorem dPR_byClue_27 : decode mPR_byClue.2.1 27 = .ok (.aload_n 0, 1) := by decide +kernel
theorem dPR_byClue_28 : decode mPR_byClue.2.1 28 = .ok (.getfield 27, 3) := by decide +kernel
theorem dPR_byClue_31 : decode mPR_byClue.2.1 31 = .ok (.if_icmp .ge 48, 3) := by decide +kernel
theorem dPR_byClue_34 : decode mPR_byClue.2.1 34 = .ok (.aload_n 0, 1) := by decide +kernel
theorem dPR_byClue_35 : decode mPR_byClue.2.1 35 = .ok (.getfield 9, 3) := by decide +kernel
theorem dPR_byClue_38 : decode mPR_byClue.2.1 38 = .ok (.iload 4, 2) := by decide +kernel
theorem dPR_byClue_40 : decode mPR_byClue.2.1 40 = .ok (.iaload, 1) := by decide +kernel
theorem dPR_byClue_41 : decode mPR_byClue.2.1 41 = .ok (.iload 6, 2) := by decide +kernel
theorem dPR_byClue_43 : decode mPR_byClue.2.1 43 = .ok (.ishr, 1) := by decide +kernel
theorem dPR_byClue_44 : decode mPR_byClue.2.1 44 = .ok (.iconst 1, 1) := by decide +kernel
theorem dPR_byClue_45 : decode mPR_byClue.2.1 45 = .ok (.iand, 1) := by decide +kernel
theorem dPR_byClue_46 : decode mPR_byClue.2.1 46 = .ok (.ifCond .eq 27, 3) := by decide +kernel
theorem dPR_byClue_49 : decode mPR_byClue.2.1 49 = .ok (.aload_n 0, 1) := by decide +kernel
theorem dPR_byClue_50 : decode mPR_byClue.2.1 50 = .ok (.iload_n 3, 1) := by decide +kernel
theorem dPR_byClue_51 : decode mPR_byClue.2.1 51 = .ok (.iload 4, 2) := by decide +kernel
theorem dPR_byClue_53 : decode mPR_byClue.2.1 53 = .ok (.iload 6, 2) := by decide +kernel
theorem dPR_byClue_55 : decode mPR_byClue.2.1 55 = .ok (.invokevirtual 108, 3) := by decide +kernel
theorem dPR_byClue_58 : decode mPR_byClue.2.1 58 = .ok (.ifCond .ne 15, 3) := by decide +kernel
theorem dPR_byClue_61 : decode mPR_byClue.2.1 61 = .ok (.aload_n 0, 1) := by decide +kernel
theorem dPR_byClue_62 : decode mPR_byClue.2.1 62 = .ok (.iload_n 1, 1) := by decide +kernel
theorem dPR_byClue_63 : decode mPR_byClue.2.1 63 = .ok (.iload_n 2, 1) := by decide +kernel
theorem dPR_byClue_64 : decode mPR_byClue.2.1 64 = .ok (.iload 4, 2) := by decide +kernel
theorem dPR_byClue_66 : decode mPR_byClue.2.1 66 = .ok (.iload 6, 2) := by decide +kernel
theorem dPR_byClue_68 : decode mPR_byClue.2.1 68 = .ok (.invokevirtual 71, 3) := by decide +kernel
theorem dPR_byClue_71 : decode mPR_byClue.2.1 71 = .ok (.iconst 1, 1) := by decide +kernel
theorem dPR_byClue_72 : decode mPR_byClue.2.1 72 = .ok (.ireturn, 1) := by decide +kernel
theorem dPR_byClue_73 : decode mPR_byClue.2.1 73 = .ok (.iinc 6 1, 3) := by decide +kernel
theorem dPR_byClue_76 : decode mPR_byClue.2.1 76 = .ok (.goto (-51), 3) := by decide +kernel
theorem dPR_byClue_79 : decode mPR_byClue.2.1 79 = .ok (.iload_n 3, 1) := by decide +kernel
theorem dPR_byClue_80 : decode mPR_byClue.2.1 80 = .ok (.iload 4, 2) := by decide +kernel
theorem dPR_byClue_82 : decode mPR_byClue.2.1 82 = .ok (.invokestatic 105, 3) := by decide +kernel
theorem dPR_byClue_85 : decode mPR_byClue.2.1 85 = .ok (.istore 4, 2) := by decide +kernel
theorem dPR_byClue_87 : decode mPR_byClue.2.1 87 = .ok (.iinc 5 1, 3) := by decide +kernel
theorem dPR_byClue_90 : decode mPR_byClue.2.1 90 = .ok (.goto (-80), 3) := by decide +kernel
theorem dPR_byClue_93 : decode mPR_byClue.2.1 93 = .ok (.iconst 0, 1) := by decide +kernel
theorem dPR_byClue_94 : decode mPR_byClue.2.1 94 = .ok (.ireturn, 1) := by decide +kernel
theorem dPR_canBeSo_0 : decode mPR_canBeSo.2.1 0 = .ok (.iload_n 1, 1) := by decide +kernel
theorem dPR_canBeSo_1 : decode mPR_canBeSo.2.1 1 = .ok (.invokestatic 95, 3) := by decide +kernel
theorem dPR_canBeSo_4 : decode mPR_canBeSo.2.1 4 = .ok (.istore 4, 2) := by decide +kernel
theorem dPR_canBeSo_6 : decode mPR_canBeSo.2.1 6 = .ok (.iload_n 1, 1) := by decide +kernel
theorem dPR_canBeSo_7 : decode mPR_canBeSo.2.1 7 = .ok (.invokestatic 111, 3) := by decide +kernel
theorem dPR_canBeSo_10 : decode mPR_canBeSo.2.1 10 = .ok (.istore 5, 2) := by decide +kernel
theorem dPR_canBeSo_12 : decode mPR_canBeSo.2.1 12 = .ok (.iload_n 1, 1) := by decide +kernel
theorem dPR_canBeSo_13 : decode mPR_canBeSo.2.1 13 = .ok (.invokestatic 114, 3) := by decide +kernel
theorem dPR_canBeSo_16 : decode mPR_canBeSo.2.1 16 = .ok (.istore 6, 2) := by decide +kernel
theorem dPR_canBeSo_18 : decode mPR_canBeSo.2.1 18 = .ok (.iload_n 1, 1) := by decide +kernel
theorem dPR_canBeSo_19 : decode mPR_canBeSo.2.1 19 = .ok (.invokestatic 117, 3) := by decide +kernel
theorem dPR_canBeSo_22 : decode mPR_canBeSo.2.1 22 = .ok (.istore 7, 2) := by decide +kernel
theorem dPR_canBeSo_24 : decode mPR_canBeSo.2.1 24 = .ok (.iload_n 1, 1) := by decide +kernel
theorem dPR_canBeSo_25 : decode mPR_canBeSo.2.1 25 = .ok (.invokestatic 120, 3) := by decide +kernel
theorem dPR_canBeSo_28 : decode mPR_canBeSo.2.1 28 = .ok (.istore 8, 2) := by decide +kernel
theorem dPR_canBeSo_30 : decode mPR_canBeSo.2.1 30 = .ok (.aload_n 0, 1) := by decide +kernel
theorem dPR_canBeSo_31 : decode mPR_canBeSo.2.1 31 = .ok (.iload 6, 2) := by decide +kernel
theorem dPR_canBeSo_33 : decode mPR_canBeSo.2.1 33 = .ok (.iload_n 2, 1) := by decide +kernel
theorem dPR_canBeSo_34 : decode mPR_canBeSo.2.1 34 = .ok (.iload_n 3, 1) := by decide +kernel
theorem dPR_canBeSo_35 : decode mPR_canBeSo.2.1 35 = .ok (.invokevirtual 123, 3) := by decide +kernel
theorem dPR_canBeSo_38 : decode mPR_canBeSo.2.1 38 = .ok (.istore 9, 2) := by decide +kernel
theorem dPR_canBeSo_40 : decode mPR_canBeSo.2.1 40 = .ok (.aload_n 0, 1) := by decide +kernel
theorem dPR_canBeSo_41 : decode mPR_canBeSo.2.1 41 = .ok (.iload 7, 2) := by decide +kernel
theorem dPR_canBeSo_43 : decode mPR_canBeSo.2.1 43 = .ok (.iload_n 2, 1) := by decide +kernel
theorem dPR_canBeSo_44 : decode mPR_canBeSo.2.1 44 = .ok (.iload_n 3, 1) := by decide +kernel
theorem dPR_canBeSo_45 : decode mPR_canBeSo.2.1 45 = .ok (.invokevirtual 123, 3) := by decide +kernel
theorem dPR_canBeSo_48 : decode mPR_canBeSo.2.1 48 = .ok (.istore 10, 2) := by decide +kernel
theorem dPR_canBeSo_50 : decode mPR_canBeSo.2.1 50 = .ok (.aload_n 0, 1) := by decide +kernel
theorem dPR_canBeSo_51 : decode mPR_canBeSo.2.1 51 = .ok (.iload 8, 2) := by decide +kernel
theorem dPR_canBeSo_53 : decode mPR_canBeSo.2.1 53 = .ok (.iload_n 2, 1) := by decide +kernel
theorem dPR_canBeSo_54 : decode mPR_canBeSo.2.1 54 = .ok (.iload_n 3, 1) := by decide +kernel
theorem dPR_canBeSo_55 : decode mPR_canBeSo.2.1 55 = .ok (.invokevirtual 123, 3) := by decide +kernel
theorem dPR_canBeSo_58 : decode mPR_canBeSo.2.1 58 = .ok (.istore 11, 2) := by decide +kernel
theorem dPR_canBeSo_60 : decode mPR_canBeSo.2.1 60 = .ok (.iconst 0, 1) := by decide +kernel
theorem dPR_canBeSo_61 : decode mPR_canBeSo.2.1 61 = .ok (.istore 12, 2) := by decide +kernel
theorem dPR_canBeSo_63 : decode mPR_canBeSo.2.1 63 = .ok (.iload 12, 2) := by decide +kernel
theorem dPR_canBeSo_65 : decode mPR_canBeSo.2.1 65 = .ok (.aload_n 0, 1) := by decide +kernel
theorem dPR_canBeSo_66 : decode mPR_canBeSo.2.1 66 = .ok (.getfield 27, 3) := by decide +kernel
theorem dPR_canBeSo_69 : decode mPR_canBeSo.2.1 69 = .ok (.if_icmp .ge 191, 3) := by decide +kernel
theorem dPR_canBeSo_72 : decode mPR_canBeSo.2.1 72 = .ok (.iload 9, 2) := by decide +kernel
theorem dPR_canBeSo_74 : decode mPR_canBeSo.2.1 74 = .ok (.iload 12, 2) := by decide +kernel
theorem dPR_canBeSo_76 : decode mPR_canBeSo.2.1 76 = .ok (.ishr, 1) := by decide +kernel
theorem dPR_canBeSo_77 : decode mPR_canBeSo.2.1 77 = .ok (.iconst 1, 1) := by decide +kernel
theorem dPR_canBeSo_78 : decode mPR_canBeSo.2.1 78 = .ok (.iand, 1) := by decide +kernel
theorem dPR_canBeSo_79 : decode mPR_canBeSo.2.1 79 = .ok (.ifCond .ne 6, 3) := by decide +kernel
theorem dPR_canBeSo_82 : decode mPR_canBeSo.2.1 82 = .ok (.goto 172, 3) := by decide +kernel
theorem dPR_canBeSo_85 : decode mPR_canBeSo.2.1 85 = .ok (.iload 7, 2) := by decide +kernel
theorem dPR_canBeSo_87 : decode mPR_canBeSo.2.1 87 = .ok (.bipush 10, 2) := by decide +kernel
theorem dPR_canBeSo_89 : decode mPR_canBeSo.2.1 89 = .ok (.idiv, 1) := by decide +kernel
theorem dPR_canBeSo_90 : decode mPR_canBeSo.2.1 90 = .ok (.iload 6, 2) := by decide +kernel
theorem dPR_canBeSo_92 : decode mPR_canBeSo.2.1 92 = .ok (.bipush 10, 2) := by decide +kernel
theorem dPR_canBeSo_94 : decode mPR_canBeSo.2.1 94 = .ok (.idiv, 1) := by decide +kernel
theorem dPR_canBeSo_95 : decode mPR_canBeSo.2.1 95 = .ok (.if_icmp .ne 15, 3) := by decide +kernel
theorem dPR_canBeSo_98 : decode mPR_canBeSo.2.1 98 = .ok (.iload 10, 2) := by decide +kernel
theorem dPR_canBeSo_100 : decode mPR_canBeSo.2.1 100 = .ok (.iconst 1, 1) := by decide +kernel
theorem dPR_canBeSo_101 : decode mPR_canBeSo.2.1 101 = .ok (.iload 12, 2) := by decide +kernel
theorem dPR_canBeSo_103 : decode mPR_canBeSo.2.1 103 = .ok (.ishl, 1) := by decide +kernel
theorem dPR_canBeSo_104 : decode mPR_canBeSo.2.1 104 = .ok (.iconst (-1), 1) := by decide +kernel
theorem dPR_canBeSo_105 : decode mPR_canBeSo.2.1 105 = .ok (.ixor, 1) := by decide +kernel
theorem dPR_canBeSo_106 : decode mPR_canBeSo.2.1 106 = .ok (.iand, 1) := by decide +kernel
theorem dPR_canBeSo_107 : decode mPR_canBeSo.2.1 107 = .ok (.goto 5, 3) := by decide +kernel
theorem dPR_canBeSo_110 : decode mPR_canBeSo.2.1 110 = .ok (.iload 10, 2) := by decide +kernel
theorem dPR_canBeSo_112 : decode mPR_canBeSo.2.1 112 = .ok (.istore 13, 2) := by decide +kernel
theorem dPR_canBeSo_114 : decode mPR_canBeSo.2.1 114 = .ok (.iload 8, 2) := by decide +kernel
theorem dPR_canBeSo_116 : decode mPR_canBeSo.2.1 116 = .ok (.bipush 10, 2) := by decide +kernel
theorem dPR_canBeSo_118 : decode mPR_canBeSo.2.1 118 = .ok (.idiv, 1) := by decide +kernel
theorem dPR_canBeSo_119 : decode mPR_canBeSo.2.1 119 = .ok (.iload 6, 2) := by decide +kernel
theorem dPR_canBeSo_121 : decode mPR_canBeSo.2.1 121 = .ok (.bipush 10, 2) := by decide +kernel
theorem dPR_canBeSo_123 : decode mPR_canBeSo.2.1 123 = .ok (.idiv, 1) := by decide +kernel
theorem dPR_canBeSo_124 : decode mPR_canBeSo.2.1 124 = .ok (.if_icmp .ne 15, 3) := by decide +kernel
theorem dPR_canBeSo_127 : decode mPR_canBeSo.2.1 127 = .ok (.iload 11, 2) := by decide +kernel
theorem dPR_canBeSo_129 : decode mPR_canBeSo.2.1 129 = .ok (.iconst 1, 1) := by decide +kernel
theorem dPR_canBeSo_130 : decode mPR_canBeSo.2.1 130 = .ok (.iload 12, 2) := by decide +kernel
theorem dPR_canBeSo_132 : decode mPR_canBeSo.2.1 132 = .ok (.ishl, 1) := by decide +kernel
theorem dPR_canBeSo_133 : decode mPR_canBeSo.2.1 133 = .ok (.iconst (-1), 1) := by decide +kernel
theorem dPR_canBeSo_134 : decode mPR_canBeSo.2.1 134 = .ok (.ixor, 1) := by decide +kernel
theorem dPR_canBeSo_135 : decode mPR_canBeSo.2.1 135 = .ok (.iand, 1) := by decide +kernel
theorem dPR_canBeSo_136 : decode mPR_canBeSo.2.1 136 = .ok (.goto 5, 3) := by decide +kernel
theorem dPR_canBeSo_139 : decode mPR_canBeSo.2.1 139 = .ok (.iload 11, 2) := by decide +kernel
theorem dPR_canBeSo_141 : decode mPR_canBeSo.2.1 141 = .ok (.istore 14, 2) := by decide +kernel
theorem dPR_canBeSo_143 : decode mPR_canBeSo.2.1 143 = .ok (.iconst 0, 1) := by decide +kernel
theorem dPR_canBeSo_144 : decode mPR_canBeSo.2.1 144 = .ok (.istore 15, 2) := by decide +kernel
theorem dPR_canBeSo_146 : decode mPR_canBeSo.2.1 146 = .ok (.iload 15, 2) := by decide +kernel
theorem dPR_canBeSo_148 : decode mPR_canBeSo.2.1 148 = .ok (.aload_n 0, 1) := by decide +kernel
theorem dPR_canBeSo_149 : decode mPR_canBeSo.2.1 149 = .ok (.getfield 27, 3) := by decide +kernel
theorem dPR_canBeSo_152 : decode mPR_canBeSo.2.1 152 = .ok (.if_icmp .ge 102, 3) := by decide +kernel
theorem dPR_canBeSo_155 : decode mPR_canBeSo.2.1 155 = .ok (.iload 13, 2) := by decide +kernel
theorem dPR_canBeSo_157 : decode mPR_canBeSo.2.1 157 = .ok (.iload 15, 2) := by decide +kernel
theorem dPR_canBeSo_159 : decode mPR_canBeSo.2.1 159 = .ok (.ishr, 1) := by decide +kernel
theorem dPR_canBeSo_160 : decode mPR_canBeSo.2.1 160 = .ok (.iconst 1, 1) := by decide +kernel
theorem dPR_canBeSo_161 : decode mPR_canBeSo.2.1 161 = .ok (.iand, 1) := by decide +kernel
theorem dPR_canBeSo_162 : decode mPR_canBeSo.2.1 162 = .ok (.ifCond .ne 6, 3) := by decide +kernel
theorem dPR_canBeSo_165 : decode mPR_canBeSo.2.1 165 = .ok (.goto 83, 3) := by decide +kernel
theorem dPR_canBeSo_168 : decode mPR_canBeSo.2.1 168 = .ok (.iload 8, 2) := by decide +kernel
theorem dPR_canBeSo_170 : decode mPR_canBeSo.2.1 170 = .ok (.ifCond .eq 28, 3) := by decide +kernel
theorem dPR_canBeSo_173 : decode mPR_canBeSo.2.1 173 = .ok (.iload 8, 2) := by decide +kernel
theorem dPR_canBeSo_175 : decode mPR_canBeSo.2.1 175 = .ok (.bipush 10, 2) := by decide +kernel
theorem dPR_canBeSo_177 : decode mPR_canBeSo.2.1 177 = .ok (.idiv, 1) := by decide +kernel
theorem dPR_canBeSo_178 : decode mPR_canBeSo.2.1 178 = .ok (.iload 7, 2) := by decide +kernel
theorem dPR_canBeSo_180 : decode mPR_canBeSo.2.1 180 = .ok (.bipush 10, 2) := by decide +kernel
theorem dPR_canBeSo_182 : decode mPR_canBeSo.2.1 182 = .ok (.idiv, 1) := by decide +kernel
theorem dPR_canBeSo_183 : decode mPR_canBeSo.2.1 183 = .ok (.if_icmp .ne 15, 3) := by decide +kernel
theorem dPR_canBeSo_186 : decode mPR_canBeSo.2.1 186 = .ok (.iload 14, 2) := by decide +kernel
theorem dPR_canBeSo_188 : decode mPR_canBeSo.2.1 188 = .ok (.iconst 1, 1) := by decide +kernel
theorem dPR_canBeSo_189 : decode mPR_canBeSo.2.1 189 = .ok (.iload 15, 2) := by decide +kernel
theorem dPR_canBeSo_191 : decode mPR_canBeSo.2.1 191 = .ok (.ishl, 1) := by decide +kernel
theorem dPR_canBeSo_192 : decode mPR_canBeSo.2.1 192 = .ok (.iconst (-1), 1) := by decide +kernel
theorem dPR_canBeSo_193 : decode mPR_canBeSo.2.1 193 = .ok (.ixor, 1) := by decide +kernel
theorem dPR_canBeSo_194 : decode mPR_canBeSo.2.1 194 = .ok (.iand, 1) := by decide +kernel
theorem dPR_canBeSo_195 : decode mPR_canBeSo.2.1 195 = .ok (.goto 5, 3) := by decide +kernel
theorem dPR_canBeSo_198 : decode mPR_canBeSo.2.1 198 = .ok (.iload 14, 2) := by decide +kernel
theorem dPR_canBeSo_200 : decode mPR_canBeSo.2.1 200 = .ok (.istore 16, 2) := by decide +kernel
theorem dPR_canBeSo_202 : decode mPR_canBeSo.2.1 202 = .ok (.iconst 0, 1) := by decide +kernel
theorem dPR_canBeSo_203 : decode mPR_canBeSo.2.1 203 = .ok (.istore 17, 2) := by decide +kernel
theorem dPR_canBeSo_205 : decode mPR_canBeSo.2.1 205 = .ok (.iload 17, 2) := by decide +kernel
theorem dPR_canBeSo_207 : decode mPR_canBeSo.2.1 207 = .ok (.aload_n 0, 1) := by decide +kernel
theorem dPR_canBeSo_208 : decode mPR_canBeSo.2.1 208 = .ok (.getfield 27, 3) := by decide +kernel
theorem dPR_canBeSo_211 : decode mPR_canBeSo.2.1 211 = .ok (.if_icmp .ge 37, 3) := by decide +kernel
theorem dPR_canBeSo_214 : decode mPR_canBeSo.2.1 214 = .ok (.iload 16, 2) := by decide +kernel
theorem dPR_canBeSo_216 : decode mPR_canBeSo.2.1 216 = .ok (.iload 17, 2) := by decide +kernel
theorem dPR_canBeSo_218 : decode mPR_canBeSo.2.1 218 = .ok (.ishr, 1) := by decide +kernel
theorem dPR_canBeSo_219 : decode mPR_canBeSo.2.1 219 = .ok (.iconst 1, 1) := by decide +kernel
theorem dPR_canBeSo_220 : decode mPR_canBeSo.2.1 220 = .ok (.iand, 1) := by decide +kernel
theorem dPR_canBeSo_221 : decode mPR_canBeSo.2.1 221 = .ok (.ifCond .eq 21, 3) := by decide +kernel
theorem dPR_canBeSo_224 : decode mPR_canBeSo.2.1 224 = .ok (.iload 4, 2) := by decide +kernel
theorem dPR_canBeSo_226 : decode mPR_canBeSo.2.1 226 = .ok (.iload 5, 2) := by decide +kernel
theorem dPR_canBeSo_228 : decode mPR_canBeSo.2.1 228 = .ok (.iload 12, 2) := by decide +kernel
theorem dPR_canBeSo_230 : decode mPR_canBeSo.2.1 230 = .ok (.iload 15, 2) := by decide +kernel
theorem dPR_canBeSo_232 : decode mPR_canBeSo.2.1 232 = .ok (.iload 17, 2) := by decide +kernel
theorem dPR_canBeSo_234 : decode mPR_canBeSo.2.1 234 = .ok (.invokestatic 127, 3) := by decide +kernel
theorem dPR_canBeSo_237 : decode mPR_canBeSo.2.1 237 = .ok (.ifCond .eq 5, 3) := by decide +kernel
theorem dPR_canBeSo_240 : decode mPR_canBeSo.2.1 240 = .ok (.iconst 1, 1) := by decide +kernel
theorem dPR_canBeSo_241 : decode mPR_canBeSo.2.1 241 = .ok (.ireturn, 1) := by decide +kernel
theorem dPR_canBeSo_242 : decode mPR_canBeSo.2.1 242 = .ok (.iinc 17 1, 3) := by decide +kernel
theorem dPR_canBeSo_245 : decode mPR_canBeSo.2.1 245 = .ok (.goto (-40), 3) := by decide +kernel
theorem dPR_canBeSo_248 : decode mPR_canBeSo.2.1 248 = .ok (.iinc 15 1, 3) := by decide +kernel
theorem dPR_canBeSo_251 : decode mPR_canBeSo.2.1 251 = .ok (.goto (-105), 3) := by decide +kernel
theorem dPR_canBeSo_254 : decode mPR_canBeSo.2.1 254 = .ok (.iinc 12 1, 3) := by decide +kernel
theorem dPR_canBeSo_257 : decode mPR_canBeSo.2.1 257 = .ok (.goto (-194), 3) := by decide +kernel
theorem dPR_canBeSo_260 : decode mPR_canBeSo.2.1 260 = .ok (.iconst 0, 1) := by decide +kernel
theorem dPR_canBeSo_261 : decode mPR_canBeSo.2.1 261 = .ok (.ireturn, 1) := by decide +kernel
theorem dPR_bitsFor_0 : decode mPR_bitsFor.2.1 0 = .ok (.iload_n 1, 1) := by decide +kernel
theorem dPR_bitsFor_1 : decode mPR_bitsFor.2.1 1 = .ok (.ifCond .ne 5, 3) := by decide +kernel
theorem dPR_bitsFor_4 : decode mPR_bitsFor.2.1 4 = .ok (.iconst 1, 1) := by decide +kernel
theorem dPR_bitsFor_5 : decode mPR_bitsFor.2.1 5 = .ok (.ireturn, 1) := by decide +kernel
theorem dPR_bitsFor_6 : decode mPR_bitsFor.2.1 6 = .ok (.iload_n 1, 1) := by decide +kernel
theorem dPR_bitsFor_7 : decode mPR_bitsFor.2.1 7 = .ok (.iload_n 2, 1) := by decide +kernel
theorem dPR_bitsFor_8 : decode mPR_bitsFor.2.1 8 = .ok (.if_icmp .ne 9, 3) := by decide +kernel
theorem dPR_bitsFor_11 : decode mPR_bitsFor.2.1 11 = .ok (.iconst 1, 1) := by decide +kernel
theorem dPR_bitsFor_12 : decode mPR_bitsFor.2.1 12 = .ok (.iload_n 3, 1) := by decide +kernel
theorem dPR_bitsFor_13 : decode mPR_bitsFor.2.1 13 = .ok (.ishl, 1) := by decide +kernel
theorem dPR_bitsFor_14 : decode mPR_bitsFor.2.1 14 = .ok (.goto 9, 3) := by decide +kernel
theorem dPR_bitsFor_17 : decode mPR_bitsFor.2.1 17 = .ok (.aload_n 0, 1) := by decide +kernel
theorem dPR_bitsFor_18 : decode mPR_bitsFor.2.1 18 = .ok (.getfield 9, 3) := by decide +kernel
theorem dPR_bitsFor_21 : decode mPR_bitsFor.2.1 21 = .ok (.iload_n 1, 1) := by decide +kernel
theorem dPR_bitsFor_22 : decode mPR_bitsFor.2.1 22 = .ok (.iaload, 1) := by decide +kernel
theorem dPR_bitsFor_23 : decode mPR_bitsFor.2.1 23 = .ok (.ireturn, 1) := by decide +kernel
theorem dPR_isSolved_0 : decode mPR_isSolved.2.1 0 = .ok (.iconst 0, 1) := by decide +kernel
theorem dPR_isSolved_1 : decode mPR_isSolved.2.1 1 = .ok (.istore_n 1, 1) := by decide +kernel
theorem dPR_isSolved_2 : decode mPR_isSolved.2.1 2 = .ok (.iload_n 1, 1) := by decide +kernel
theorem dPR_isSolved_3 : decode mPR_isSolved.2.1 3 = .ok (.aload_n 0, 1) := by decide +kernel
theorem dPR_isSolved_4 : decode mPR_isSolved.2.1 4 = .ok (.getfield 31, 3) := by decide +kernel
theorem dPR_isSolved_7 : decode mPR_isSolved.2.1 7 = .ok (.if_icmp .ge 31, 3) := by decide +kernel
theorem dPR_isSolved_10 : decode mPR_isSolved.2.1 10 = .ok (.aload_n 0, 1) := by decide +kernel
theorem dPR_isSolved_11 : decode mPR_isSolved.2.1 11 = .ok (.getfield 9, 3) := by decide +kernel
theorem dPR_isSolved_14 : decode mPR_isSolved.2.1 14 = .ok (.iload_n 1, 1) := by decide +kernel
theorem dPR_isSolved_15 : decode mPR_isSolved.2.1 15 = .ok (.aload_n 0, 1) := by decide +kernel
theorem dPR_isSolved_16 : decode mPR_isSolved.2.1 16 = .ok (.getfield 27, 3) := by decide +kernel
theorem dPR_isSolved_19 : decode mPR_isSolved.2.1 19 = .ok (.invokestatic 44, 3) := by decide +kernel
theorem dPR_isSolved_22 : decode mPR_isSolved.2.1 22 = .ok (.iaload, 1) := by decide +kernel
theorem dPR_isSolved_23 : decode mPR_isSolved.2.1 23 = .ok (.invokestatic 62, 3) := by decide +kernel
theorem dPR_isSolved_26 : decode mPR_isSolved.2.1 26 = .ok (.iconst 1, 1) := by decide +kernel
theorem dPR_isSolved_27 : decode mPR_isSolved.2.1 27 = .ok (.if_icmp .eq 5, 3) := by decide +kernel
theorem dPR_isSolved_30 : decode mPR_isSolved.2.1 30 = .ok (.iconst 0, 1) := by decide +kernel
theorem dPR_isSolved_31 : decode mPR_isSolved.2.1 31 = .ok (.ireturn, 1) := by decide +kernel
theorem dPR_isSolved_32 : decode mPR_isSolved.2.1 32 = .ok (.iinc 1 1, 3) := by decide +kernel
theorem dPR_isSolved_35 : decode mPR_isSolved.2.1 35 = .ok (.goto (-33), 3) := by decide +kernel
theorem dPR_isSolved_38 : decode mPR_isSolved.2.1 38 = .ok (.iconst 1, 1) := by decide +kernel
theorem dPR_isSolved_39 : decode mPR_isSolved.2.1 39 = .ok (.ireturn, 1) := by decide +kernel
