theorem dCL_init_0 : decode mCL_init.2.1 0 = .ok (.aload_n 0, 1) := by decide +kernel
theorem dCL_init_1 : decode mCL_init.2.1 1 = .ok (.invokespecial 3, 3) := by decide +kernel
theorem dCL_init_4 : decode mCL_init.2.1 4 = .ok (.aload_n 0, 1) := by decide +kernel
theorem dCL_init_5 : decode mCL_init.2.1 5 = .ok (.bipush 30, 2) := by decide +kernel
theorem dCL_init_7 : decode mCL_init.2.1 7 = .ok (.newarray .int, 2) := by decide +kernel
theorem dCL_init_9 : decode mCL_init.2.1 9 = .ok (.putfield 9, 3) := by decide +kernel
theorem dCL_init_12 : decode mCL_init.2.1 12 = .ok (.return_, 1) := by decide +kernel
theorem dCL_has_0 : decode mCL_has.2.1 0 = .ok (.iload_n 1, 1) := by decide +kernel
theorem dCL_has_1 : decode mCL_has.2.1 1 = .ok (.ifCond .lt 15, 3) := by decide +kernel
theorem dCL_has_4 : decode mCL_has.2.1 4 = .ok (.iload_n 1, 1) := by decide +kernel
theorem dCL_has_5 : decode mCL_has.2.1 5 = .ok (.aload_n 0, 1) := by decide +kernel
theorem dCL_has_6 : decode mCL_has.2.1 6 = .ok (.getfield 15, 3) := by decide +kernel
theorem dCL_has_9 : decode mCL_has.2.1 9 = .ok (.if_icmp .ge 7, 3) := by decide +kernel
theorem dCL_has_12 : decode mCL_has.2.1 12 = .ok (.iconst 1, 1) := by decide +kernel
theorem dCL_has_13 : decode mCL_has.2.1 13 = .ok (.goto 4, 3) := by decide +kernel
theorem dCL_has_16 : decode mCL_has.2.1 16 = .ok (.iconst 0, 1) := by decide +kernel
theorem dCL_has_17 : decode mCL_has.2.1 17 = .ok (.ireturn, 1) := by decide +kernel
theorem dCL_contains_0 : decode mCL_contains.2.1 0 = .ok (.iconst 0, 1) := by decide +kernel
theorem dCL_contains_1 : decode mCL_contains.2.1 1 = .ok (.istore_n 2, 1) := by decide +kernel
theorem dCL_contains_2 : decode mCL_contains.2.1 2 = .ok (.iload_n 2, 1) := by decide +kernel
theorem dCL_contains_3 : decode mCL_contains.2.1 3 = .ok (.aload_n 0, 1) := by decide +kernel
theorem dCL_contains_4 : decode mCL_contains.2.1 4 = .ok (.getfield 15, 3) := by decide +kernel
theorem dCL_contains_7 : decode mCL_contains.2.1 7 = .ok (.if_icmp .ge 21, 3) := by decide +kernel
theorem dCL_contains_10 : decode mCL_contains.2.1 10 = .ok (.aload_n 0, 1) := by decide +kernel
theorem dCL_contains_11 : decode mCL_contains.2.1 11 = .ok (.getfield 9, 3) := by decide +kernel
theorem dCL_contains_14 : decode mCL_contains.2.1 14 = .ok (.iload_n 2, 1) := by decide +kernel
theorem dCL_contains_15 : decode mCL_contains.2.1 15 = .ok (.iaload, 1) := by decide +kernel
theorem dCL_contains_16 : decode mCL_contains.2.1 16 = .ok (.iload_n 1, 1) := by decide +kernel
theorem dCL_contains_17 : decode mCL_contains.2.1 17 = .ok (.if_icmp .ne 5, 3) := by decide +kernel
theorem dCL_contains_20 : decode mCL_contains.2.1 20 = .ok (.iconst 1, 1) := by decide +kernel
theorem dCL_contains_21 : decode mCL_contains.2.1 21 = .ok (.ireturn, 1) := by decide +kernel
theorem dCL_contains_22 : decode mCL_contains.2.1 22 = .ok (.iinc 2 1, 3) := by decide +kernel
theorem dCL_contains_25 : decode mCL_contains.2.1 25 = .ok (.goto (-23), 3) := by decide +kernel
theorem dCL_contains_28 : decode mCL_contains.2.1 28 = .ok (.iconst 0, 1) := by decide +kernel
theorem dCL_contains_29 : decode mCL_contains.2.1 29 = .ok (.ireturn, 1) := by decide +kernel
theorem dCL_add_0 : decode mCL_add.2.1 0 = .ok (.aload_n 0, 1) := by decide +kernel
theorem dCL_add_1 : decode mCL_add.2.1 1 = .ok (.getfield 15, 3) := by decide +kernel
theorem dCL_add_4 : decode mCL_add.2.1 4 = .ok (.bipush 30, 2) := by decide +kernel
theorem dCL_add_6 : decode mCL_add.2.1 6 = .ok (.if_icmp .ge 23, 3) := by decide +kernel
theorem dCL_add_9 : decode mCL_add.2.1 9 = .ok (.aload_n 0, 1) := by decide +kernel
theorem dCL_add_10 : decode mCL_add.2.1 10 = .ok (.getfield 9, 3) := by decide +kernel
theorem dCL_add_13 : decode mCL_add.2.1 13 = .ok (.aload_n 0, 1) := by decide +kernel
theorem dCL_add_14 : decode mCL_add.2.1 14 = .ok (.getfield 15, 3) := by decide +kernel
theorem dCL_add_17 : decode mCL_add.2.1 17 = .ok (.iload_n 1, 1) := by decide +kernel
theorem dCL_add_18 : decode mCL_add.2.1 18 = .ok (.iastore, 1) := by decide +kernel
theorem dCL_add_19 : decode mCL_add.2.1 19 = .ok (.aload_n 0, 1) := by decide +kernel
theorem dCL_add_20 : decode mCL_add.2.1 20 = .ok (.dup, 1) := by decide +kernel
theorem dCL_add_21 : decode mCL_add.2.1 21 = .ok (.getfield 15, 3) := by decide +kernel
theorem dCL_add_24 : decode mCL_add.2.1 24 = .ok (.iconst 1, 1) := by decide +kernel
theorem dCL_add_25 : decode mCL_add.2.1 25 = .ok (.iadd, 1) := by decide +kernel
theorem dCL_add_26 : decode mCL_add.2.1 26 = .ok (.putfield 15, 3) := by decide +kernel
theorem dCL_add_29 : decode mCL_add.2.1 29 = .ok (.return_, 1) := by decide +kernel
theorem dCL_removeAt_0 : decode mCL_removeAt.2.1 0 = .ok (.aload_n 0, 1) := by decide +kernel
theorem dCL_removeAt_1 : decode mCL_removeAt.2.1 1 = .ok (.iload_n 1, 1) := by decide +kernel
theorem dCL_removeAt_2 : decode mCL_removeAt.2.1 2 = .ok (.invokevirtual 19, 3) := by decide +kernel
theorem dCL_removeAt_5 : decode mCL_removeAt.2.1 5 = .ok (.ifCond .ne 4, 3) := by decide +kernel
theorem dCL_removeAt_8 : decode mCL_removeAt.2.1 8 = .ok (.return_, 1) := by decide +kernel
theorem dCL_removeAt_9 : decode mCL_removeAt.2.1 9 = .ok (.iload_n 1, 1) := by decide +kernel
theorem dCL_removeAt_10 : decode mCL_removeAt.2.1 10 = .ok (.istore_n 2, 1) := by decide +kernel
theorem dCL_removeAt_11 : decode mCL_removeAt.2.1 11 = .ok (.iload_n 2, 1) := by decide +kernel
theorem dCL_removeAt_12 : decode mCL_removeAt.2.1 12 = .ok (.iconst 1, 1) := by decide +kernel
theorem dCL_removeAt_13 : decode mCL_removeAt.2.1 13 = .ok (.iadd, 1) := by decide +kernel
theorem dCL_removeAt_14 : decode mCL_removeAt.2.1 14 = .ok (.aload_n 0, 1) := by decide +kernel
theorem dCL_removeAt_15 : decode mCL_removeAt.2.1 15 = .ok (.getfield 15, 3) := by decide +kernel
theorem dCL_removeAt_18 : decode mCL_removeAt.2.1 18 = .ok (.if_icmp .ge 23, 3) := by decide +kernel
theorem dCL_removeAt_21 : decode mCL_removeAt.2.1 21 = .ok (.aload_n 0, 1) := by decide +kernel
theorem dCL_removeAt_22 : decode mCL_removeAt.2.1 22 = .ok (.getfield 9, 3) := by decide +kernel
theorem dCL_removeAt_25 : decode mCL_removeAt.2.1 25 = .ok (.iload_n 2, 1) := by decide +kernel
theorem dCL_removeAt_26 : decode mCL_removeAt.2.1 26 = .ok (.aload_n 0, 1) := by decide +kernel
theorem dCL_removeAt_27 : decode mCL_removeAt.2.1 27 = .ok (.getfield 9, 3) := by decide +kernel
theorem dCL_removeAt_30 : decode mCL_removeAt.2.1 30 = .ok (.iload_n 2, 1) := by decide +kernel
theorem dCL_removeAt_31 : decode mCL_removeAt.2.1 31 = .ok (.iconst 1, 1) := by decide +kernel
theorem dCL_removeAt_32 : decode mCL_removeAt.2.1 32 = .ok (.iadd, 1) := by decide +kernel
theorem dCL_removeAt_33 : decode mCL_removeAt.2.1 33 = .ok (.iaload, 1) := by decide +kernel
theorem dCL_removeAt_34 : decode mCL_removeAt.2.1 34 = .ok (.iastore, 1) := by decide +kernel
theorem dCL_removeAt_35 : decode mCL_removeAt.2.1 35 = .ok (.iinc 2 1, 3) := by decide +kernel
theorem dCL_removeAt_38 : decode mCL_removeAt.2.1 38 = .ok (.goto (-27), 3) := by decide +kernel
theorem dCL_removeAt_41 : decode mCL_removeAt.2.1 41 = .ok (.aload_n 0, 1) := by decide +kernel
theorem dCL_removeAt_42 : decode mCL_removeAt.2.1 42 = .ok (.dup, 1) := by decide +kernel
theorem dCL_removeAt_43 : decode mCL_removeAt.2.1 43 = .ok (.getfield 15, 3) := by decide +kernel
theorem dCL_removeAt_46 : decode mCL_removeAt.2.1 46 = .ok (.iconst 1, 1) := by decide +kernel
theorem dCL_removeAt_47 : decode mCL_removeAt.2.1 47 = .ok (.isub, 1) := by decide +kernel
theorem dCL_removeAt_48 : decode mCL_removeAt.2.1 48 = .ok (.putfield 15, 3) := by decide +kernel
theorem dCL_removeAt_51 : decode mCL_removeAt.2.1 51 = .ok (.return_, 1) := by decide +kernel
theorem dCL_takeAll_0 : decode mCL_takeAll.2.1 0 = .ok (.aload_n 1, 1) := by decide +kernel
theorem dCL_takeAll_1 : decode mCL_takeAll.2.1 1 = .ok (.getfield 9, 3) := by decide +kernel
theorem dCL_takeAll_4 : decode mCL_takeAll.2.1 4 = .ok (.iconst 0, 1) := by decide +kernel
theorem dCL_takeAll_5 : decode mCL_takeAll.2.1 5 = .ok (.aload_n 0, 1) := by decide +kernel
theorem dCL_takeAll_6 : decode mCL_takeAll.2.1 6 = .ok (.getfield 9, 3) := by decide +kernel
theorem dCL_takeAll_9 : decode mCL_takeAll.2.1 9 = .ok (.iconst 0, 1) := by decide +kernel
theorem dCL_takeAll_10 : decode mCL_takeAll.2.1 10 = .ok (.aload_n 1, 1) := by decide +kernel
theorem dCL_takeAll_11 : decode mCL_takeAll.2.1 11 = .ok (.getfield 15, 3) := by decide +kernel
theorem dCL_takeAll_14 : decode mCL_takeAll.2.1 14 = .ok (.invokestatic 23, 3) := by decide +kernel
theorem dCL_takeAll_17 : decode mCL_takeAll.2.1 17 = .ok (.aload_n 0, 1) := by decide +kernel
theorem dCL_takeAll_18 : decode mCL_takeAll.2.1 18 = .ok (.aload_n 1, 1) := by decide +kernel
theorem dCL_takeAll_19 : decode mCL_takeAll.2.1 19 = .ok (.getfield 15, 3) := by decide +kernel
theorem dCL_takeAll_22 : decode mCL_takeAll.2.1 22 = .ok (.putfield 15, 3) := by decide +kernel
theorem dCL_takeAll_25 : decode mCL_takeAll.2.1 25 = .ok (.return_, 1) := by decide +kernel
