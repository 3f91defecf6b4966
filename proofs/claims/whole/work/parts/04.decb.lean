theorem dX4_init_0 : decode cX4_init 0 = .ok (.aload_n 0, 1) := by decide +kernel
theorem dX4_init_1 : decode cX4_init 1 = .ok (.invokespecial 1, 3) := by decide +kernel
theorem dX4_init_4 : decode cX4_init 4 = .ok (.aload_n 0, 1) := by decide +kernel
theorem dX4_init_5 : decode cX4_init 5 = .ok (.sipush 160, 3) := by decide +kernel
theorem dX4_init_8 : decode cX4_init 8 = .ok (.newarray .int, 2) := by decide +kernel
theorem dX4_init_10 : decode cX4_init 10 = .ok (.putfield 9, 3) := by decide +kernel
theorem dX4_init_13 : decode cX4_init 13 = .ok (.aload_n 0, 1) := by decide +kernel
theorem dX4_init_14 : decode cX4_init 14 = .ok (.bipush 24, 2) := by decide +kernel
theorem dX4_init_16 : decode cX4_init 16 = .ok (.newarray .int, 2) := by decide +kernel
theorem dX4_init_18 : decode cX4_init 18 = .ok (.putfield 13, 3) := by decide +kernel
theorem dX4_init_21 : decode cX4_init 21 = .ok (.aload_n 0, 1) := by decide +kernel
theorem dX4_init_22 : decode cX4_init 22 = .ok (.bipush 26, 2) := by decide +kernel
theorem dX4_init_24 : decode cX4_init 24 = .ok (.newarray .int, 2) := by decide +kernel
theorem dX4_init_26 : decode cX4_init 26 = .ok (.putfield 16, 3) := by decide +kernel
theorem dX4_init_29 : decode cX4_init 29 = .ok (.aload_n 0, 1) := by decide +kernel
theorem dX4_init_30 : decode cX4_init 30 = .ok (.bipush 10, 2) := by decide +kernel
theorem dX4_init_32 : decode cX4_init 32 = .ok (.newarray .int, 2) := by decide +kernel
theorem dX4_init_34 : decode cX4_init 34 = .ok (.putfield 19, 3) := by decide +kernel
theorem dX4_init_37 : decode cX4_init 37 = .ok (.iconst 0, 1) := by decide +kernel
theorem dX4_init_38 : decode cX4_init 38 = .ok (.istore_n 1, 1) := by decide +kernel
theorem dX4_init_39 : decode cX4_init 39 = .ok (.iload_n 1, 1) := by decide +kernel
theorem dX4_init_40 : decode cX4_init 40 = .ok (.bipush 40, 2) := by decide +kernel
theorem dX4_init_42 : decode cX4_init 42 = .ok (.if_icmp .ge 20, 3) := by decide +kernel
theorem dX4_init_45 : decode cX4_init 45 = .ok (.aload_n 0, 1) := by decide +kernel
theorem dX4_init_46 : decode cX4_init 46 = .ok (.getfield 9, 3) := by decide +kernel
theorem dX4_init_49 : decode cX4_init 49 = .ok (.iconst 4, 1) := by decide +kernel
theorem dX4_init_50 : decode cX4_init 50 = .ok (.iload_n 1, 1) := by decide +kernel
theorem dX4_init_51 : decode cX4_init 51 = .ok (.imul, 1) := by decide +kernel
theorem dX4_init_52 : decode cX4_init 52 = .ok (.iconst 0, 1) := by decide +kernel
theorem dX4_init_53 : decode cX4_init 53 = .ok (.iadd, 1) := by decide +kernel
theorem dX4_init_54 : decode cX4_init 54 = .ok (.iconst (-1), 1) := by decide +kernel
theorem dX4_init_55 : decode cX4_init 55 = .ok (.iastore, 1) := by decide +kernel
theorem dX4_init_56 : decode cX4_init 56 = .ok (.iinc 1 1, 3) := by decide +kernel
theorem dX4_init_59 : decode cX4_init 59 = .ok (.goto (-20), 3) := by decide +kernel
theorem dX4_init_62 : decode cX4_init 62 = .ok (.aload_n 0, 1) := by decide +kernel
theorem dX4_init_63 : decode cX4_init 63 = .ok (.getfield 19, 3) := by decide +kernel
theorem dX4_init_66 : decode cX4_init 66 = .ok (.iconst 0, 1) := by decide +kernel
theorem dX4_init_67 : decode cX4_init 67 = .ok (.bipush 6, 2) := by decide +kernel
theorem dX4_init_69 : decode cX4_init 69 = .ok (.iastore, 1) := by decide +kernel
theorem dX4_init_70 : decode cX4_init 70 = .ok (.return_, 1) := by decide +kernel
theorem dX4_thrown_0 : decode cX4_thrown 0 = .ok (.aload_n 0, 1) := by decide +kernel
theorem dX4_thrown_1 : decode cX4_thrown 1 = .ok (.getfield 22, 3) := by decide +kernel
theorem dX4_thrown_4 : decode cX4_thrown 4 = .ok (.ireturn, 1) := by decide +kernel
theorem dX4_fail_0 : decode cX4_fail 0 = .ok (.aload_n 0, 1) := by decide +kernel
theorem dX4_fail_1 : decode cX4_fail 1 = .ok (.iload_n 1, 1) := by decide +kernel
theorem dX4_fail_2 : decode cX4_fail 2 = .ok (.putfield 22, 3) := by decide +kernel
theorem dX4_fail_5 : decode cX4_fail 5 = .ok (.iconst 0, 1) := by decide +kernel
theorem dX4_fail_6 : decode cX4_fail 6 = .ok (.ireturn, 1) := by decide +kernel
theorem dX4_isIn_0 : decode cX4_isIn 0 = .ok (.iload_n 0, 1) := by decide +kernel
theorem dX4_isIn_1 : decode cX4_isIn 1 = .ok (.iload_n 1, 1) := by decide +kernel
theorem dX4_isIn_2 : decode cX4_isIn 2 = .ok (.if_icmp .lt 12, 3) := by decide +kernel
theorem dX4_isIn_5 : decode cX4_isIn 5 = .ok (.iload_n 0, 1) := by decide +kernel
theorem dX4_isIn_6 : decode cX4_isIn 6 = .ok (.iload_n 2, 1) := by decide +kernel
theorem dX4_isIn_7 : decode cX4_isIn 7 = .ok (.if_icmp .gt 7, 3) := by decide +kernel
theorem dX4_isIn_10 : decode cX4_isIn 10 = .ok (.iconst 1, 1) := by decide +kernel
theorem dX4_isIn_11 : decode cX4_isIn 11 = .ok (.goto 4, 3) := by decide +kernel
theorem dX4_isIn_14 : decode cX4_isIn 14 = .ok (.iconst 0, 1) := by decide +kernel
theorem dX4_isIn_15 : decode cX4_isIn 15 = .ok (.ireturn, 1) := by decide +kernel
theorem dX4_isKind_0 : decode cX4_isKind 0 = .ok (.iload_n 0, 1) := by decide +kernel
theorem dX4_isKind_1 : decode cX4_isKind 1 = .ok (.iconst 0, 1) := by decide +kernel
theorem dX4_isKind_2 : decode cX4_isKind 2 = .ok (.bipush 39, 2) := by decide +kernel
theorem dX4_isKind_4 : decode cX4_isKind 4 = .ok (.invokestatic 26, 3) := by decide +kernel
theorem dX4_isKind_7 : decode cX4_isKind 7 = .ok (.ireturn, 1) := by decide +kernel
theorem dX4_ja_0 : decode cX4_ja 0 = .ok (.aload_n 0, 1) := by decide +kernel
theorem dX4_ja_1 : decode cX4_ja 1 = .ok (.getfield 9, 3) := by decide +kernel
theorem dX4_ja_4 : decode cX4_ja 4 = .ok (.iconst 4, 1) := by decide +kernel
theorem dX4_ja_5 : decode cX4_ja 5 = .ok (.iload_n 1, 1) := by decide +kernel
theorem dX4_ja_6 : decode cX4_ja 6 = .ok (.imul, 1) := by decide +kernel
theorem dX4_ja_7 : decode cX4_ja 7 = .ok (.iload_n 2, 1) := by decide +kernel
theorem dX4_ja_8 : decode cX4_ja 8 = .ok (.iadd, 1) := by decide +kernel
theorem dX4_ja_9 : decode cX4_ja 9 = .ok (.iaload, 1) := by decide +kernel
theorem dX4_ja_10 : decode cX4_ja 10 = .ok (.ireturn, 1) := by decide +kernel
theorem dX4_isThere_0 : decode cX4_isThere 0 = .ok (.aload_n 0, 1) := by decide +kernel
theorem dX4_isThere_1 : decode cX4_isThere 1 = .ok (.iload_n 1, 1) := by decide +kernel
theorem dX4_isThere_2 : decode cX4_isThere 2 = .ok (.iconst 0, 1) := by decide +kernel
theorem dX4_isThere_3 : decode cX4_isThere 3 = .ok (.invokevirtual 30, 3) := by decide +kernel
theorem dX4_isThere_6 : decode cX4_isThere 6 = .ok (.iconst (-1), 1) := by decide +kernel
theorem dX4_isThere_7 : decode cX4_isThere 7 = .ok (.if_icmp .eq 7, 3) := by decide +kernel
theorem dX4_isThere_10 : decode cX4_isThere 10 = .ok (.iconst 1, 1) := by decide +kernel
theorem dX4_isThere_11 : decode cX4_isThere 11 = .ok (.goto 4, 3) := by decide +kernel
theorem dX4_isThere_14 : decode cX4_isThere 14 = .ok (.iconst 0, 1) := by decide +kernel
theorem dX4_isThere_15 : decode cX4_isThere 15 = .ok (.ireturn, 1) := by decide +kernel
theorem dX4_many_0 : decode cX4_many 0 = .ok (.aload_n 0, 1) := by decide +kernel
theorem dX4_many_1 : decode cX4_many 1 = .ok (.getfield 19, 3) := by decide +kernel
theorem dX4_many_4 : decode cX4_many 4 = .ok (.bipush 6, 2) := by decide +kernel
theorem dX4_many_6 : decode cX4_many 6 = .ok (.iload_n 1, 1) := by decide +kernel
theorem dX4_many_7 : decode cX4_many 7 = .ok (.iadd, 1) := by decide +kernel
theorem dX4_many_8 : decode cX4_many 8 = .ok (.iaload, 1) := by decide +kernel
theorem dX4_many_9 : decode cX4_many 9 = .ok (.ireturn, 1) := by decide +kernel
theorem dX4_all_0 : decode cX4_all 0 = .ok (.aload_n 0, 1) := by decide +kernel
theorem dX4_all_1 : decode cX4_all 1 = .ok (.iconst 0, 1) := by decide +kernel
theorem dX4_all_2 : decode cX4_all 2 = .ok (.invokevirtual 34, 3) := by decide +kernel
theorem dX4_all_5 : decode cX4_all 5 = .ok (.aload_n 0, 1) := by decide +kernel
theorem dX4_all_6 : decode cX4_all 6 = .ok (.iconst 1, 1) := by decide +kernel
theorem dX4_all_7 : decode cX4_all 7 = .ok (.invokevirtual 34, 3) := by decide +kernel
theorem dX4_all_10 : decode cX4_all 10 = .ok (.iadd, 1) := by decide +kernel
theorem dX4_all_11 : decode cX4_all 11 = .ok (.ireturn, 1) := by decide +kernel
theorem dX4_kindAt_0 : decode cX4_kindAt 0 = .ok (.aload_n 0, 1) := by decide +kernel
theorem dX4_kindAt_1 : decode cX4_kindAt 1 = .ok (.getfield 13, 3) := by decide +kernel
theorem dX4_kindAt_4 : decode cX4_kindAt 4 = .ok (.bipush 12, 2) := by decide +kernel
theorem dX4_kindAt_6 : decode cX4_kindAt 6 = .ok (.iload_n 1, 1) := by decide +kernel
theorem dX4_kindAt_7 : decode cX4_kindAt 7 = .ok (.imul, 1) := by decide +kernel
theorem dX4_kindAt_8 : decode cX4_kindAt 8 = .ok (.iload_n 2, 1) := by decide +kernel
theorem dX4_kindAt_9 : decode cX4_kindAt 9 = .ok (.iadd, 1) := by decide +kernel
theorem dX4_kindAt_10 : decode cX4_kindAt 10 = .ok (.iaload, 1) := by decide +kernel
theorem dX4_kindAt_11 : decode cX4_kindAt 11 = .ok (.ireturn, 1) := by decide +kernel
theorem dX4_listed_0 : decode cX4_listed 0 = .ok (.aload_n 0, 1) := by decide +kernel
theorem dX4_listed_1 : decode cX4_listed 1 = .ok (.getfield 19, 3) := by decide +kernel
theorem dX4_listed_4 : decode cX4_listed 4 = .ok (.bipush 8, 2) := by decide +kernel
theorem dX4_listed_6 : decode cX4_listed 6 = .ok (.iload_n 1, 1) := by decide +kernel
theorem dX4_listed_7 : decode cX4_listed 7 = .ok (.iadd, 1) := by decide +kernel
theorem dX4_listed_8 : decode cX4_listed 8 = .ok (.iaload, 1) := by decide +kernel
theorem dX4_listed_9 : decode cX4_listed 9 = .ok (.ireturn, 1) := by decide +kernel
theorem dX4_listedAt_0 : decode cX4_listedAt 0 = .ok (.aload_n 0, 1) := by decide +kernel
theorem dX4_listedAt_1 : decode cX4_listedAt 1 = .ok (.getfield 16, 3) := by decide +kernel
theorem dX4_listedAt_4 : decode cX4_listedAt 4 = .ok (.bipush 13, 2) := by decide +kernel
theorem dX4_listedAt_6 : decode cX4_listedAt 6 = .ok (.iload_n 1, 1) := by decide +kernel
theorem dX4_listedAt_7 : decode cX4_listedAt 7 = .ok (.imul, 1) := by decide +kernel
theorem dX4_listedAt_8 : decode cX4_listedAt 8 = .ok (.iload_n 2, 1) := by decide +kernel
theorem dX4_listedAt_9 : decode cX4_listedAt 9 = .ok (.iadd, 1) := by decide +kernel
theorem dX4_listedAt_10 : decode cX4_listedAt 10 = .ok (.iaload, 1) := by decide +kernel
theorem dX4_listedAt_11 : decode cX4_listedAt 11 = .ok (.ireturn, 1) := by decide +kernel
theorem dX4_putLast_0 : decode cX4_putLast 0 = .ok (.aload_n 0, 1) := by decide +kernel
theorem dX4_putLast_1 : decode cX4_putLast 1 = .ok (.getfield 13, 3) := by decide +kernel
theorem dX4_putLast_4 : decode cX4_putLast 4 = .ok (.bipush 12, 2) := by decide +kernel
theorem dX4_putLast_6 : decode cX4_putLast 6 = .ok (.iload_n 1, 1) := by decide +kernel
theorem dX4_putLast_7 : decode cX4_putLast 7 = .ok (.imul, 1) := by decide +kernel
theorem dX4_putLast_8 : decode cX4_putLast 8 = .ok (.aload_n 0, 1) := by decide +kernel
theorem dX4_putLast_9 : decode cX4_putLast 9 = .ok (.iload_n 1, 1) := by decide +kernel
theorem dX4_putLast_10 : decode cX4_putLast 10 = .ok (.invokevirtual 34, 3) := by decide +kernel
theorem dX4_putLast_13 : decode cX4_putLast 13 = .ok (.iadd, 1) := by decide +kernel
theorem dX4_putLast_14 : decode cX4_putLast 14 = .ok (.iload_n 2, 1) := by decide +kernel
theorem dX4_putLast_15 : decode cX4_putLast 15 = .ok (.iastore, 1) := by decide +kernel
theorem dX4_putLast_16 : decode cX4_putLast 16 = .ok (.aload_n 0, 1) := by decide +kernel
theorem dX4_putLast_17 : decode cX4_putLast 17 = .ok (.getfield 19, 3) := by decide +kernel
theorem dX4_putLast_20 : decode cX4_putLast 20 = .ok (.bipush 6, 2) := by decide +kernel
theorem dX4_putLast_22 : decode cX4_putLast 22 = .ok (.iload_n 1, 1) := by decide +kernel
theorem dX4_putLast_23 : decode cX4_putLast 23 = .ok (.iadd, 1) := by decide +kernel
theorem dX4_putLast_24 : decode cX4_putLast 24 = .ok (.dup2, 1) := by decide +kernel
theorem dX4_putLast_25 : decode cX4_putLast 25 = .ok (.iaload, 1) := by decide +kernel
theorem dX4_putLast_26 : decode cX4_putLast 26 = .ok (.iconst 1, 1) := by decide +kernel
theorem dX4_putLast_27 : decode cX4_putLast 27 = .ok (.iadd, 1) := by decide +kernel
theorem dX4_putLast_28 : decode cX4_putLast 28 = .ok (.iastore, 1) := by decide +kernel
theorem dX4_putLast_29 : decode cX4_putLast 29 = .ok (.aload_n 0, 1) := by decide +kernel
theorem dX4_putLast_30 : decode cX4_putLast 30 = .ok (.getfield 9, 3) := by decide +kernel
theorem dX4_putLast_33 : decode cX4_putLast 33 = .ok (.iconst 4, 1) := by decide +kernel
theorem dX4_putLast_34 : decode cX4_putLast 34 = .ok (.iload_n 2, 1) := by decide +kernel
theorem dX4_putLast_35 : decode cX4_putLast 35 = .ok (.imul, 1) := by decide +kernel
theorem dX4_putLast_36 : decode cX4_putLast 36 = .ok (.iconst 0, 1) := by decide +kernel
theorem dX4_putLast_37 : decode cX4_putLast 37 = .ok (.iadd, 1) := by decide +kernel
theorem dX4_putLast_38 : decode cX4_putLast 38 = .ok (.iload_n 1, 1) := by decide +kernel
theorem dX4_putLast_39 : decode cX4_putLast 39 = .ok (.iastore, 1) := by decide +kernel
theorem dX4_putLast_40 : decode cX4_putLast 40 = .ok (.return_, 1) := by decide +kernel
theorem dX4_takeOut_0 : decode cX4_takeOut 0 = .ok (.aload_n 0, 1) := by decide +kernel
theorem dX4_takeOut_1 : decode cX4_takeOut 1 = .ok (.getfield 19, 3) := by decide +kernel
theorem dX4_takeOut_4 : decode cX4_takeOut 4 = .ok (.bipush 6, 2) := by decide +kernel
theorem dX4_takeOut_6 : decode cX4_takeOut 6 = .ok (.iload_n 1, 1) := by decide +kernel
theorem dX4_takeOut_7 : decode cX4_takeOut 7 = .ok (.iadd, 1) := by decide +kernel
theorem dX4_takeOut_8 : decode cX4_takeOut 8 = .ok (.dup2, 1) := by decide +kernel
theorem dX4_takeOut_9 : decode cX4_takeOut 9 = .ok (.iaload, 1) := by decide +kernel
theorem dX4_takeOut_10 : decode cX4_takeOut 10 = .ok (.iconst 1, 1) := by decide +kernel
theorem dX4_takeOut_11 : decode cX4_takeOut 11 = .ok (.isub, 1) := by decide +kernel
theorem dX4_takeOut_12 : decode cX4_takeOut 12 = .ok (.iastore, 1) := by decide +kernel
theorem dX4_takeOut_13 : decode cX4_takeOut 13 = .ok (.aload_n 0, 1) := by decide +kernel
theorem dX4_takeOut_14 : decode cX4_takeOut 14 = .ok (.getfield 13, 3) := by decide +kernel
theorem dX4_takeOut_17 : decode cX4_takeOut 17 = .ok (.bipush 12, 2) := by decide +kernel
theorem dX4_takeOut_19 : decode cX4_takeOut 19 = .ok (.iload_n 1, 1) := by decide +kernel
theorem dX4_takeOut_20 : decode cX4_takeOut 20 = .ok (.imul, 1) := by decide +kernel
theorem dX4_takeOut_21 : decode cX4_takeOut 21 = .ok (.iload_n 2, 1) := by decide +kernel
theorem dX4_takeOut_22 : decode cX4_takeOut 22 = .ok (.iadd, 1) := by decide +kernel
theorem dX4_takeOut_23 : decode cX4_takeOut 23 = .ok (.iconst 1, 1) := by decide +kernel
theorem dX4_takeOut_24 : decode cX4_takeOut 24 = .ok (.iadd, 1) := by decide +kernel
theorem dX4_takeOut_25 : decode cX4_takeOut 25 = .ok (.aload_n 0, 1) := by decide +kernel
theorem dX4_takeOut_26 : decode cX4_takeOut 26 = .ok (.getfield 13, 3) := by decide +kernel
theorem dX4_takeOut_29 : decode cX4_takeOut 29 = .ok (.bipush 12, 2) := by decide +kernel
theorem dX4_takeOut_31 : decode cX4_takeOut 31 = .ok (.iload_n 1, 1) := by decide +kernel
theorem dX4_takeOut_32 : decode cX4_takeOut 32 = .ok (.imul, 1) := by decide +kernel
theorem dX4_takeOut_33 : decode cX4_takeOut 33 = .ok (.iload_n 2, 1) := by decide +kernel
theorem dX4_takeOut_34 : decode cX4_takeOut 34 = .ok (.iadd, 1) := by decide +kernel
theorem dX4_takeOut_35 : decode cX4_takeOut 35 = .ok (.aload_n 0, 1) := by decide +kernel
theorem dX4_takeOut_36 : decode cX4_takeOut 36 = .ok (.iload_n 1, 1) := by decide +kernel
theorem dX4_takeOut_37 : decode cX4_takeOut 37 = .ok (.invokevirtual 34, 3) := by decide +kernel
theorem dX4_takeOut_40 : decode cX4_takeOut 40 = .ok (.iload_n 2, 1) := by decide +kernel
theorem dX4_takeOut_41 : decode cX4_takeOut 41 = .ok (.isub, 1) := by decide +kernel
theorem dX4_takeOut_42 : decode cX4_takeOut 42 = .ok (.invokestatic 38, 3) := by decide +kernel
theorem dX4_takeOut_45 : decode cX4_takeOut 45 = .ok (.return_, 1) := by decide +kernel
theorem dX4_takeOff_0 : decode cX4_takeOff 0 = .ok (.aload_n 0, 1) := by decide +kernel
theorem dX4_takeOff_1 : decode cX4_takeOff 1 = .ok (.getfield 19, 3) := by decide +kernel
theorem dX4_takeOff_4 : decode cX4_takeOff 4 = .ok (.bipush 8, 2) := by decide +kernel
theorem dX4_takeOff_6 : decode cX4_takeOff 6 = .ok (.iload_n 1, 1) := by decide +kernel
theorem dX4_takeOff_7 : decode cX4_takeOff 7 = .ok (.iadd, 1) := by decide +kernel
theorem dX4_takeOff_8 : decode cX4_takeOff 8 = .ok (.dup2, 1) := by decide +kernel
theorem dX4_takeOff_9 : decode cX4_takeOff 9 = .ok (.iaload, 1) := by decide +kernel
theorem dX4_takeOff_10 : decode cX4_takeOff 10 = .ok (.iconst 1, 1) := by decide +kernel
theorem dX4_takeOff_11 : decode cX4_takeOff 11 = .ok (.isub, 1) := by decide +kernel
theorem dX4_takeOff_12 : decode cX4_takeOff 12 = .ok (.iastore, 1) := by decide +kernel
theorem dX4_takeOff_13 : decode cX4_takeOff 13 = .ok (.aload_n 0, 1) := by decide +kernel
theorem dX4_takeOff_14 : decode cX4_takeOff 14 = .ok (.getfield 16, 3) := by decide +kernel
theorem dX4_takeOff_17 : decode cX4_takeOff 17 = .ok (.bipush 13, 2) := by decide +kernel
theorem dX4_takeOff_19 : decode cX4_takeOff 19 = .ok (.iload_n 1, 1) := by decide +kernel
theorem dX4_takeOff_20 : decode cX4_takeOff 20 = .ok (.imul, 1) := by decide +kernel
theorem dX4_takeOff_21 : decode cX4_takeOff 21 = .ok (.iload_n 2, 1) := by decide +kernel
theorem dX4_takeOff_22 : decode cX4_takeOff 22 = .ok (.iadd, 1) := by decide +kernel
theorem dX4_takeOff_23 : decode cX4_takeOff 23 = .ok (.iconst 1, 1) := by decide +kernel
theorem dX4_takeOff_24 : decode cX4_takeOff 24 = .ok (.iadd, 1) := by decide +kernel
theorem dX4_takeOff_25 : decode cX4_takeOff 25 = .ok (.aload_n 0, 1) := by decide +kernel
theorem dX4_takeOff_26 : decode cX4_takeOff 26 = .ok (.getfield 16, 3) := by decide +kernel
theorem dX4_takeOff_29 : decode cX4_takeOff 29 = .ok (.bipush 13, 2) := by decide +kernel
theorem dX4_takeOff_31 : decode cX4_takeOff 31 = .ok (.iload_n 1, 1) := by decide +kernel
theorem dX4_takeOff_32 : decode cX4_takeOff 32 = .ok (.imul, 1) := by decide +kernel
theorem dX4_takeOff_33 : decode cX4_takeOff 33 = .ok (.iload_n 2, 1) := by decide +kernel
theorem dX4_takeOff_34 : decode cX4_takeOff 34 = .ok (.iadd, 1) := by decide +kernel
theorem dX4_takeOff_35 : decode cX4_takeOff 35 = .ok (.aload_n 0, 1) := by decide +kernel
theorem dX4_takeOff_36 : decode cX4_takeOff 36 = .ok (.iload_n 1, 1) := by decide +kernel
theorem dX4_takeOff_37 : decode cX4_takeOff 37 = .ok (.invokevirtual 44, 3) := by decide +kernel
theorem dX4_takeOff_40 : decode cX4_takeOff 40 = .ok (.iload_n 2, 1) := by decide +kernel
theorem dX4_takeOff_41 : decode cX4_takeOff 41 = .ok (.isub, 1) := by decide +kernel
theorem dX4_takeOff_42 : decode cX4_takeOff 42 = .ok (.invokestatic 38, 3) := by decide +kernel
theorem dX4_takeOff_45 : decode cX4_takeOff 45 = .ok (.return_, 1) := by decide +kernel
theorem dX4_forget_0 : decode cX4_forget 0 = .ok (.aload_n 0, 1) := by decide +kernel
theorem dX4_forget_1 : decode cX4_forget 1 = .ok (.iload_n 1, 1) := by decide +kernel
theorem dX4_forget_2 : decode cX4_forget 2 = .ok (.invokevirtual 44, 3) := by decide +kernel
theorem dX4_forget_5 : decode cX4_forget 5 = .ok (.aload_n 0, 1) := by decide +kernel
theorem dX4_forget_6 : decode cX4_forget 6 = .ok (.getfield 19, 3) := by decide +kernel
theorem dX4_forget_9 : decode cX4_forget 9 = .ok (.iconst 0, 1) := by decide +kernel
theorem dX4_forget_10 : decode cX4_forget 10 = .ok (.iaload, 1) := by decide +kernel
theorem dX4_forget_11 : decode cX4_forget 11 = .ok (.if_icmp .le 12, 3) := by decide +kernel
theorem dX4_forget_14 : decode cX4_forget 14 = .ok (.aload_n 0, 1) := by decide +kernel
theorem dX4_forget_15 : decode cX4_forget 15 = .ok (.iload_n 1, 1) := by decide +kernel
theorem dX4_forget_16 : decode cX4_forget 16 = .ok (.iconst 0, 1) := by decide +kernel
theorem dX4_forget_17 : decode cX4_forget 17 = .ok (.invokevirtual 47, 3) := by decide +kernel
theorem dX4_forget_20 : decode cX4_forget 20 = .ok (.goto (-20), 3) := by decide +kernel
theorem dX4_forget_23 : decode cX4_forget 23 = .ok (.return_, 1) := by decide +kernel
theorem dX4_remember_0 : decode cX4_remember 0 = .ok (.aload_n 0, 1) := by decide +kernel
theorem dX4_remember_1 : decode cX4_remember 1 = .ok (.getfield 16, 3) := by decide +kernel
theorem dX4_remember_4 : decode cX4_remember 4 = .ok (.bipush 13, 2) := by decide +kernel
theorem dX4_remember_6 : decode cX4_remember 6 = .ok (.iload_n 1, 1) := by decide +kernel
theorem dX4_remember_7 : decode cX4_remember 7 = .ok (.imul, 1) := by decide +kernel
theorem dX4_remember_8 : decode cX4_remember 8 = .ok (.aload_n 0, 1) := by decide +kernel
theorem dX4_remember_9 : decode cX4_remember 9 = .ok (.iload_n 1, 1) := by decide +kernel
theorem dX4_remember_10 : decode cX4_remember 10 = .ok (.invokevirtual 44, 3) := by decide +kernel
theorem dX4_remember_13 : decode cX4_remember 13 = .ok (.iadd, 1) := by decide +kernel
theorem dX4_remember_14 : decode cX4_remember 14 = .ok (.iload_n 2, 1) := by decide +kernel
theorem dX4_remember_15 : decode cX4_remember 15 = .ok (.iastore, 1) := by decide +kernel
theorem dX4_remember_16 : decode cX4_remember 16 = .ok (.aload_n 0, 1) := by decide +kernel
theorem dX4_remember_17 : decode cX4_remember 17 = .ok (.getfield 19, 3) := by decide +kernel
theorem dX4_remember_20 : decode cX4_remember 20 = .ok (.bipush 8, 2) := by decide +kernel
theorem dX4_remember_22 : decode cX4_remember 22 = .ok (.iload_n 1, 1) := by decide +kernel
theorem dX4_remember_23 : decode cX4_remember 23 = .ok (.iadd, 1) := by decide +kernel
theorem dX4_remember_24 : decode cX4_remember 24 = .ok (.dup2, 1) := by decide +kernel
theorem dX4_remember_25 : decode cX4_remember 25 = .ok (.iaload, 1) := by decide +kernel
theorem dX4_remember_26 : decode cX4_remember 26 = .ok (.iconst 1, 1) := by decide +kernel
theorem dX4_remember_27 : decode cX4_remember 27 = .ok (.iadd, 1) := by decide +kernel
theorem dX4_remember_28 : decode cX4_remember 28 = .ok (.iastore, 1) := by decide +kernel
theorem dX4_remember_29 : decode cX4_remember 29 = .ok (.aload_n 0, 1) := by decide +kernel
theorem dX4_remember_30 : decode cX4_remember 30 = .ok (.iload_n 1, 1) := by decide +kernel
theorem dX4_remember_31 : decode cX4_remember 31 = .ok (.invokevirtual 51, 3) := by decide +kernel
theorem dX4_remember_34 : decode cX4_remember 34 = .ok (.return_, 1) := by decide +kernel
theorem dX4_listPlace_0 : decode cX4_listPlace 0 = .ok (.iconst 0, 1) := by decide +kernel
theorem dX4_listPlace_1 : decode cX4_listPlace 1 = .ok (.istore_n 3, 1) := by decide +kernel
theorem dX4_listPlace_2 : decode cX4_listPlace 2 = .ok (.iload_n 3, 1) := by decide +kernel
theorem dX4_listPlace_3 : decode cX4_listPlace 3 = .ok (.aload_n 0, 1) := by decide +kernel
theorem dX4_listPlace_4 : decode cX4_listPlace 4 = .ok (.iload_n 1, 1) := by decide +kernel
theorem dX4_listPlace_5 : decode cX4_listPlace 5 = .ok (.invokevirtual 44, 3) := by decide +kernel
theorem dX4_listPlace_8 : decode cX4_listPlace 8 = .ok (.if_icmp .ge 21, 3) := by decide +kernel
theorem dX4_listPlace_11 : decode cX4_listPlace 11 = .ok (.aload_n 0, 1) := by decide +kernel
theorem dX4_listPlace_12 : decode cX4_listPlace 12 = .ok (.iload_n 1, 1) := by decide +kernel
theorem dX4_listPlace_13 : decode cX4_listPlace 13 = .ok (.iload_n 3, 1) := by decide +kernel
theorem dX4_listPlace_14 : decode cX4_listPlace 14 = .ok (.invokevirtual 55, 3) := by decide +kernel
theorem dX4_listPlace_17 : decode cX4_listPlace 17 = .ok (.iload_n 2, 1) := by decide +kernel
theorem dX4_listPlace_18 : decode cX4_listPlace 18 = .ok (.if_icmp .ne 5, 3) := by decide +kernel
theorem dX4_listPlace_21 : decode cX4_listPlace 21 = .ok (.iload_n 3, 1) := by decide +kernel
theorem dX4_listPlace_22 : decode cX4_listPlace 22 = .ok (.ireturn, 1) := by decide +kernel
theorem dX4_listPlace_23 : decode cX4_listPlace 23 = .ok (.iinc 3 1, 3) := by decide +kernel
theorem dX4_listPlace_26 : decode cX4_listPlace 26 = .ok (.goto (-24), 3) := by decide +kernel
theorem dX4_listPlace_29 : decode cX4_listPlace 29 = .ok (.iconst (-1), 1) := by decide +kernel
theorem dX4_listPlace_30 : decode cX4_listPlace 30 = .ok (.ireturn, 1) := by decide +kernel
theorem dX4_placeOf_0 : decode cX4_placeOf 0 = .ok (.iconst 0, 1) := by decide +kernel
theorem dX4_placeOf_1 : decode cX4_placeOf 1 = .ok (.istore_n 2, 1) := by decide +kernel
theorem dX4_placeOf_2 : decode cX4_placeOf 2 = .ok (.aload_n 0, 1) := by decide +kernel
theorem dX4_placeOf_3 : decode cX4_placeOf 3 = .ok (.aload_n 0, 1) := by decide +kernel
theorem dX4_placeOf_4 : decode cX4_placeOf 4 = .ok (.iload_n 1, 1) := by decide +kernel
theorem dX4_placeOf_5 : decode cX4_placeOf 5 = .ok (.iconst 0, 1) := by decide +kernel
theorem dX4_placeOf_6 : decode cX4_placeOf 6 = .ok (.invokevirtual 30, 3) := by decide +kernel
theorem dX4_placeOf_9 : decode cX4_placeOf 9 = .ok (.iload_n 2, 1) := by decide +kernel
theorem dX4_placeOf_10 : decode cX4_placeOf 10 = .ok (.invokevirtual 58, 3) := by decide +kernel
theorem dX4_placeOf_13 : decode cX4_placeOf 13 = .ok (.iload_n 1, 1) := by decide +kernel
theorem dX4_placeOf_14 : decode cX4_placeOf 14 = .ok (.if_icmp .eq 9, 3) := by decide +kernel
theorem dX4_placeOf_17 : decode cX4_placeOf 17 = .ok (.iinc 2 1, 3) := by decide +kernel
theorem dX4_placeOf_20 : decode cX4_placeOf 20 = .ok (.goto (-18), 3) := by decide +kernel
theorem dX4_placeOf_23 : decode cX4_placeOf 23 = .ok (.iload_n 2, 1) := by decide +kernel
theorem dX4_placeOf_24 : decode cX4_placeOf 24 = .ok (.ireturn, 1) := by decide +kernel
theorem dX4_pinned_0 : decode cX4_pinned 0 = .ok (.iconst 0, 1) := by decide +kernel
theorem dX4_pinned_1 : decode cX4_pinned 1 = .ok (.istore_n 1, 1) := by decide +kernel
theorem dX4_pinned_2 : decode cX4_pinned 2 = .ok (.iconst 0, 1) := by decide +kernel
theorem dX4_pinned_3 : decode cX4_pinned 3 = .ok (.istore_n 2, 1) := by decide +kernel
theorem dX4_pinned_4 : decode cX4_pinned 4 = .ok (.iload_n 2, 1) := by decide +kernel
theorem dX4_pinned_5 : decode cX4_pinned 5 = .ok (.bipush 40, 2) := by decide +kernel
theorem dX4_pinned_7 : decode cX4_pinned 7 = .ok (.if_icmp .ge 34, 3) := by decide +kernel
theorem dX4_pinned_10 : decode cX4_pinned 10 = .ok (.iload_n 1, 1) := by decide +kernel
theorem dX4_pinned_11 : decode cX4_pinned 11 = .ok (.aload_n 0, 1) := by decide +kernel
theorem dX4_pinned_12 : decode cX4_pinned 12 = .ok (.iload_n 2, 1) := by decide +kernel
theorem dX4_pinned_13 : decode cX4_pinned 13 = .ok (.invokevirtual 61, 3) := by decide +kernel
theorem dX4_pinned_16 : decode cX4_pinned 16 = .ok (.ifCond .eq 16, 3) := by decide +kernel
theorem dX4_pinned_19 : decode cX4_pinned 19 = .ok (.aload_n 0, 1) := by decide +kernel
theorem dX4_pinned_20 : decode cX4_pinned 20 = .ok (.iload_n 2, 1) := by decide +kernel
theorem dX4_pinned_21 : decode cX4_pinned 21 = .ok (.iconst 2, 1) := by decide +kernel
theorem dX4_pinned_22 : decode cX4_pinned 22 = .ok (.invokevirtual 30, 3) := by decide +kernel
theorem dX4_pinned_25 : decode cX4_pinned 25 = .ok (.ifCond .le 7, 3) := by decide +kernel
theorem dX4_pinned_28 : decode cX4_pinned 28 = .ok (.iconst 1, 1) := by decide +kernel
theorem dX4_pinned_29 : decode cX4_pinned 29 = .ok (.goto 4, 3) := by decide +kernel
theorem dX4_pinned_32 : decode cX4_pinned 32 = .ok (.iconst 0, 1) := by decide +kernel
theorem dX4_pinned_33 : decode cX4_pinned 33 = .ok (.iadd, 1) := by decide +kernel
theorem dX4_pinned_34 : decode cX4_pinned 34 = .ok (.istore_n 1, 1) := by decide +kernel
theorem dX4_pinned_35 : decode cX4_pinned 35 = .ok (.iinc 2 1, 3) := by decide +kernel
theorem dX4_pinned_38 : decode cX4_pinned 38 = .ok (.goto (-34), 3) := by decide +kernel
theorem dX4_pinned_41 : decode cX4_pinned 41 = .ok (.iload_n 1, 1) := by decide +kernel
theorem dX4_pinned_42 : decode cX4_pinned 42 = .ok (.ireturn, 1) := by decide +kernel
theorem dX4_canGive_0 : decode cX4_canGive 0 = .ok (.iconst 0, 1) := by decide +kernel
theorem dX4_canGive_1 : decode cX4_canGive 1 = .ok (.istore_n 2, 1) := by decide +kernel
theorem dX4_canGive_2 : decode cX4_canGive 2 = .ok (.iload_n 2, 1) := by decide +kernel
theorem dX4_canGive_3 : decode cX4_canGive 3 = .ok (.aload_n 0, 1) := by decide +kernel
theorem dX4_canGive_4 : decode cX4_canGive 4 = .ok (.iload_n 1, 1) := by decide +kernel
theorem dX4_canGive_5 : decode cX4_canGive 5 = .ok (.invokevirtual 34, 3) := by decide +kernel
theorem dX4_canGive_8 : decode cX4_canGive 8 = .ok (.if_icmp .ge 25, 3) := by decide +kernel
theorem dX4_canGive_11 : decode cX4_canGive 11 = .ok (.aload_n 0, 1) := by decide +kernel
theorem dX4_canGive_12 : decode cX4_canGive 12 = .ok (.aload_n 0, 1) := by decide +kernel
theorem dX4_canGive_13 : decode cX4_canGive 13 = .ok (.iload_n 1, 1) := by decide +kernel
theorem dX4_canGive_14 : decode cX4_canGive 14 = .ok (.iload_n 2, 1) := by decide +kernel
theorem dX4_canGive_15 : decode cX4_canGive 15 = .ok (.invokevirtual 58, 3) := by decide +kernel
theorem dX4_canGive_18 : decode cX4_canGive 18 = .ok (.iconst 2, 1) := by decide +kernel
theorem dX4_canGive_19 : decode cX4_canGive 19 = .ok (.invokevirtual 30, 3) := by decide +kernel
theorem dX4_canGive_22 : decode cX4_canGive 22 = .ok (.ifCond .ne 5, 3) := by decide +kernel
theorem dX4_canGive_25 : decode cX4_canGive 25 = .ok (.iconst 1, 1) := by decide +kernel
theorem dX4_canGive_26 : decode cX4_canGive 26 = .ok (.ireturn, 1) := by decide +kernel
theorem dX4_canGive_27 : decode cX4_canGive 27 = .ok (.iinc 2 1, 3) := by decide +kernel
theorem dX4_canGive_30 : decode cX4_canGive 30 = .ok (.goto (-28), 3) := by decide +kernel
theorem dX4_canGive_33 : decode cX4_canGive 33 = .ok (.iconst 0, 1) := by decide +kernel
theorem dX4_canGive_34 : decode cX4_canGive 34 = .ok (.ireturn, 1) := by decide +kernel
theorem dX4_sweep_0 : decode cX4_sweep 0 = .ok (.aload_n 0, 1) := by decide +kernel
theorem dX4_sweep_1 : decode cX4_sweep 1 = .ok (.iconst 0, 1) := by decide +kernel
theorem dX4_sweep_2 : decode cX4_sweep 2 = .ok (.invokevirtual 65, 3) := by decide +kernel
theorem dX4_sweep_5 : decode cX4_sweep 5 = .ok (.ifCond .eq 33, 3) := by decide +kernel
theorem dX4_sweep_8 : decode cX4_sweep 8 = .ok (.aload_n 0, 1) := by decide +kernel
theorem dX4_sweep_9 : decode cX4_sweep 9 = .ok (.iconst 0, 1) := by decide +kernel
theorem dX4_sweep_10 : decode cX4_sweep 10 = .ok (.invokevirtual 34, 3) := by decide +kernel
theorem dX4_sweep_13 : decode cX4_sweep 13 = .ok (.iconst 1, 1) := by decide +kernel
theorem dX4_sweep_14 : decode cX4_sweep 14 = .ok (.aload_n 0, 1) := by decide +kernel
theorem dX4_sweep_15 : decode cX4_sweep 15 = .ok (.getfield 19, 3) := by decide +kernel
theorem dX4_sweep_18 : decode cX4_sweep 18 = .ok (.iconst 1, 1) := by decide +kernel
theorem dX4_sweep_19 : decode cX4_sweep 19 = .ok (.iaload, 1) := by decide +kernel
theorem dX4_sweep_20 : decode cX4_sweep 20 = .ok (.invokestatic 68, 3) := by decide +kernel
theorem dX4_sweep_23 : decode cX4_sweep 23 = .ok (.if_icmp .ge 11, 3) := by decide +kernel
theorem dX4_sweep_26 : decode cX4_sweep 26 = .ok (.aload_n 0, 1) := by decide +kernel
theorem dX4_sweep_27 : decode cX4_sweep 27 = .ok (.iconst 1, 1) := by decide +kernel
theorem dX4_sweep_28 : decode cX4_sweep 28 = .ok (.invokevirtual 65, 3) := by decide +kernel
theorem dX4_sweep_31 : decode cX4_sweep 31 = .ok (.ifCond .ne 7, 3) := by decide +kernel
theorem dX4_sweep_34 : decode cX4_sweep 34 = .ok (.iconst 1, 1) := by decide +kernel
theorem dX4_sweep_35 : decode cX4_sweep 35 = .ok (.goto 4, 3) := by decide +kernel
theorem dX4_sweep_38 : decode cX4_sweep 38 = .ok (.iconst 0, 1) := by decide +kernel
theorem dX4_sweep_39 : decode cX4_sweep 39 = .ok (.istore_n 1, 1) := by decide +kernel
theorem dX4_sweep_40 : decode cX4_sweep 40 = .ok (.iload_n 1, 1) := by decide +kernel
theorem dX4_sweep_41 : decode cX4_sweep 41 = .ok (.ifCond .eq 7, 3) := by decide +kernel
theorem dX4_sweep_44 : decode cX4_sweep 44 = .ok (.iconst 0, 1) := by decide +kernel
theorem dX4_sweep_45 : decode cX4_sweep 45 = .ok (.goto 4, 3) := by decide +kernel
theorem dX4_sweep_48 : decode cX4_sweep 48 = .ok (.iconst 1, 1) := by decide +kernel
theorem dX4_sweep_49 : decode cX4_sweep 49 = .ok (.istore_n 2, 1) := by decide +kernel
theorem dX4_sweep_50 : decode cX4_sweep 50 = .ok (.aload_n 0, 1) := by decide +kernel
theorem dX4_sweep_51 : decode cX4_sweep 51 = .ok (.iload_n 2, 1) := by decide +kernel
theorem dX4_sweep_52 : decode cX4_sweep 52 = .ok (.iconst 0, 1) := by decide +kernel
theorem dX4_sweep_53 : decode cX4_sweep 53 = .ok (.invokevirtual 58, 3) := by decide +kernel
theorem dX4_sweep_56 : decode cX4_sweep 56 = .ok (.istore_n 3, 1) := by decide +kernel
theorem dX4_sweep_57 : decode cX4_sweep 57 = .ok (.aload_n 0, 1) := by decide +kernel
theorem dX4_sweep_58 : decode cX4_sweep 58 = .ok (.iload_n 2, 1) := by decide +kernel
theorem dX4_sweep_59 : decode cX4_sweep 59 = .ok (.iconst 0, 1) := by decide +kernel
theorem dX4_sweep_60 : decode cX4_sweep 60 = .ok (.invokevirtual 73, 3) := by decide +kernel
theorem dX4_sweep_63 : decode cX4_sweep 63 = .ok (.aload_n 0, 1) := by decide +kernel
theorem dX4_sweep_64 : decode cX4_sweep 64 = .ok (.getfield 19, 3) := by decide +kernel
theorem dX4_sweep_67 : decode cX4_sweep 67 = .ok (.iconst 5, 1) := by decide +kernel
theorem dX4_sweep_68 : decode cX4_sweep 68 = .ok (.dup2, 1) := by decide +kernel
theorem dX4_sweep_69 : decode cX4_sweep 69 = .ok (.iaload, 1) := by decide +kernel
theorem dX4_sweep_70 : decode cX4_sweep 70 = .ok (.iconst 1, 1) := by decide +kernel
theorem dX4_sweep_71 : decode cX4_sweep 71 = .ok (.iadd, 1) := by decide +kernel
theorem dX4_sweep_72 : decode cX4_sweep 72 = .ok (.iastore, 1) := by decide +kernel
theorem dX4_sweep_73 : decode cX4_sweep 73 = .ok (.aload_n 0, 1) := by decide +kernel
theorem dX4_sweep_74 : decode cX4_sweep 74 = .ok (.iload_n 3, 1) := by decide +kernel
theorem dX4_sweep_75 : decode cX4_sweep 75 = .ok (.iconst 2, 1) := by decide +kernel
theorem dX4_sweep_76 : decode cX4_sweep 76 = .ok (.invokevirtual 30, 3) := by decide +kernel
theorem dX4_sweep_79 : decode cX4_sweep 79 = .ok (.ifCond .le 12, 3) := by decide +kernel
theorem dX4_sweep_82 : decode cX4_sweep 82 = .ok (.aload_n 0, 1) := by decide +kernel
theorem dX4_sweep_83 : decode cX4_sweep 83 = .ok (.iload_n 2, 1) := by decide +kernel
theorem dX4_sweep_84 : decode cX4_sweep 84 = .ok (.iload_n 3, 1) := by decide +kernel
theorem dX4_sweep_85 : decode cX4_sweep 85 = .ok (.invokevirtual 76, 3) := by decide +kernel
theorem dX4_sweep_88 : decode cX4_sweep 88 = .ok (.goto 52, 3) := by decide +kernel
theorem dX4_sweep_91 : decode cX4_sweep 91 = .ok (.aload_n 0, 1) := by decide +kernel
theorem dX4_sweep_92 : decode cX4_sweep 92 = .ok (.iload_n 3, 1) := by decide +kernel
theorem dX4_sweep_93 : decode cX4_sweep 93 = .ok (.iconst 1, 1) := by decide +kernel
theorem dX4_sweep_94 : decode cX4_sweep 94 = .ok (.invokevirtual 30, 3) := by decide +kernel
theorem dX4_sweep_97 : decode cX4_sweep 97 = .ok (.iconst 1, 1) := by decide +kernel
theorem dX4_sweep_98 : decode cX4_sweep 98 = .ok (.if_icmp .ne 23, 3) := by decide +kernel
theorem dX4_sweep_101 : decode cX4_sweep 101 = .ok (.aload_n 0, 1) := by decide +kernel
theorem dX4_sweep_102 : decode cX4_sweep 102 = .ok (.getfield 9, 3) := by decide +kernel
theorem dX4_sweep_105 : decode cX4_sweep 105 = .ok (.iconst 4, 1) := by decide +kernel
theorem dX4_sweep_106 : decode cX4_sweep 106 = .ok (.iload_n 3, 1) := by decide +kernel
theorem dX4_sweep_107 : decode cX4_sweep 107 = .ok (.imul, 1) := by decide +kernel
theorem dX4_sweep_108 : decode cX4_sweep 108 = .ok (.iconst 1, 1) := by decide +kernel
theorem dX4_sweep_109 : decode cX4_sweep 109 = .ok (.iadd, 1) := by decide +kernel
theorem dX4_sweep_110 : decode cX4_sweep 110 = .ok (.iconst 0, 1) := by decide +kernel
theorem dX4_sweep_111 : decode cX4_sweep 111 = .ok (.iastore, 1) := by decide +kernel
theorem dX4_sweep_112 : decode cX4_sweep 112 = .ok (.aload_n 0, 1) := by decide +kernel
theorem dX4_sweep_113 : decode cX4_sweep 113 = .ok (.iconst 1, 1) := by decide +kernel
theorem dX4_sweep_114 : decode cX4_sweep 114 = .ok (.iload_n 3, 1) := by decide +kernel
theorem dX4_sweep_115 : decode cX4_sweep 115 = .ok (.invokevirtual 76, 3) := by decide +kernel
theorem dX4_sweep_118 : decode cX4_sweep 118 = .ok (.goto 22, 3) := by decide +kernel
theorem dX4_sweep_121 : decode cX4_sweep 121 = .ok (.aload_n 0, 1) := by decide +kernel
theorem dX4_sweep_122 : decode cX4_sweep 122 = .ok (.getfield 9, 3) := by decide +kernel
theorem dX4_sweep_125 : decode cX4_sweep 125 = .ok (.iconst 4, 1) := by decide +kernel
theorem dX4_sweep_126 : decode cX4_sweep 126 = .ok (.iload_n 3, 1) := by decide +kernel
theorem dX4_sweep_127 : decode cX4_sweep 127 = .ok (.imul, 1) := by decide +kernel
theorem dX4_sweep_128 : decode cX4_sweep 128 = .ok (.iconst 0, 1) := by decide +kernel
theorem dX4_sweep_129 : decode cX4_sweep 129 = .ok (.iadd, 1) := by decide +kernel
theorem dX4_sweep_130 : decode cX4_sweep 130 = .ok (.iconst (-1), 1) := by decide +kernel
theorem dX4_sweep_131 : decode cX4_sweep 131 = .ok (.iastore, 1) := by decide +kernel
theorem dX4_sweep_132 : decode cX4_sweep 132 = .ok (.aload_n 0, 1) := by decide +kernel
theorem dX4_sweep_133 : decode cX4_sweep 133 = .ok (.iload_n 2, 1) := by decide +kernel
theorem dX4_sweep_134 : decode cX4_sweep 134 = .ok (.iload_n 3, 1) := by decide +kernel
theorem dX4_sweep_135 : decode cX4_sweep 135 = .ok (.invokevirtual 79, 3) := by decide +kernel
theorem dX4_sweep_138 : decode cX4_sweep 138 = .ok (.iload_n 3, 1) := by decide +kernel
theorem dX4_sweep_139 : decode cX4_sweep 139 = .ok (.ireturn, 1) := by decide +kernel
theorem dX4_sweep_140 : decode cX4_sweep 140 = .ok (.goto (-140), 3) := by decide +kernel
theorem dX4_canFetch_0 : decode cX4_canFetch 0 = .ok (.aload_n 0, 1) := by decide +kernel
theorem dX4_canFetch_1 : decode cX4_canFetch 1 = .ok (.iload_n 1, 1) := by decide +kernel
theorem dX4_canFetch_2 : decode cX4_canFetch 2 = .ok (.invokevirtual 61, 3) := by decide +kernel
theorem dX4_canFetch_5 : decode cX4_canFetch 5 = .ok (.ifCond .ne 27, 3) := by decide +kernel
theorem dX4_canFetch_8 : decode cX4_canFetch 8 = .ok (.aload_n 0, 1) := by decide +kernel
theorem dX4_canFetch_9 : decode cX4_canFetch 9 = .ok (.invokevirtual 82, 3) := by decide +kernel
theorem dX4_canFetch_12 : decode cX4_canFetch 12 = .ok (.aload_n 0, 1) := by decide +kernel
theorem dX4_canFetch_13 : decode cX4_canFetch 13 = .ok (.getfield 19, 3) := by decide +kernel
theorem dX4_canFetch_16 : decode cX4_canFetch 16 = .ok (.iconst 0, 1) := by decide +kernel
theorem dX4_canFetch_17 : decode cX4_canFetch 17 = .ok (.iaload, 1) := by decide +kernel
theorem dX4_canFetch_18 : decode cX4_canFetch 18 = .ok (.if_icmp .lt 14, 3) := by decide +kernel
theorem dX4_canFetch_21 : decode cX4_canFetch 21 = .ok (.aload_n 0, 1) := by decide +kernel
theorem dX4_canFetch_22 : decode cX4_canFetch 22 = .ok (.invokevirtual 86, 3) := by decide +kernel
theorem dX4_canFetch_25 : decode cX4_canFetch 25 = .ok (.aload_n 0, 1) := by decide +kernel
theorem dX4_canFetch_26 : decode cX4_canFetch 26 = .ok (.invokevirtual 82, 3) := by decide +kernel
theorem dX4_canFetch_29 : decode cX4_canFetch 29 = .ok (.if_icmp .ge 7, 3) := by decide +kernel
theorem dX4_canFetch_32 : decode cX4_canFetch 32 = .ok (.iconst 1, 1) := by decide +kernel
theorem dX4_canFetch_33 : decode cX4_canFetch 33 = .ok (.goto 4, 3) := by decide +kernel
theorem dX4_canFetch_36 : decode cX4_canFetch 36 = .ok (.iconst 0, 1) := by decide +kernel
theorem dX4_canFetch_37 : decode cX4_canFetch 37 = .ok (.ireturn, 1) := by decide +kernel
theorem dX4_listOf_0 : decode cX4_listOf 0 = .ok (.aload_n 0, 1) := by decide +kernel
theorem dX4_listOf_1 : decode cX4_listOf 1 = .ok (.iconst 0, 1) := by decide +kernel
theorem dX4_listOf_2 : decode cX4_listOf 2 = .ok (.iload_n 1, 1) := by decide +kernel
theorem dX4_listOf_3 : decode cX4_listOf 3 = .ok (.invokevirtual 89, 3) := by decide +kernel
theorem dX4_listOf_6 : decode cX4_listOf 6 = .ok (.iconst (-1), 1) := by decide +kernel
theorem dX4_listOf_7 : decode cX4_listOf 7 = .ok (.if_icmp .eq 7, 3) := by decide +kernel
theorem dX4_listOf_10 : decode cX4_listOf 10 = .ok (.iconst 0, 1) := by decide +kernel
theorem dX4_listOf_11 : decode cX4_listOf 11 = .ok (.goto 18, 3) := by decide +kernel
theorem dX4_listOf_14 : decode cX4_listOf 14 = .ok (.aload_n 0, 1) := by decide +kernel
theorem dX4_listOf_15 : decode cX4_listOf 15 = .ok (.iconst 1, 1) := by decide +kernel
theorem dX4_listOf_16 : decode cX4_listOf 16 = .ok (.iload_n 1, 1) := by decide +kernel
theorem dX4_listOf_17 : decode cX4_listOf 17 = .ok (.invokevirtual 89, 3) := by decide +kernel
theorem dX4_listOf_20 : decode cX4_listOf 20 = .ok (.iconst (-1), 1) := by decide +kernel
theorem dX4_listOf_21 : decode cX4_listOf 21 = .ok (.if_icmp .eq 7, 3) := by decide +kernel
theorem dX4_listOf_24 : decode cX4_listOf 24 = .ok (.iconst 1, 1) := by decide +kernel
theorem dX4_listOf_25 : decode cX4_listOf 25 = .ok (.goto 4, 3) := by decide +kernel
theorem dX4_listOf_28 : decode cX4_listOf 28 = .ok (.iconst (-1), 1) := by decide +kernel
theorem dX4_listOf_29 : decode cX4_listOf 29 = .ok (.ireturn, 1) := by decide +kernel
theorem dX4_told_0 : decode cX4_told 0 = .ok (.aload_n 0, 1) := by decide +kernel
theorem dX4_told_1 : decode cX4_told 1 = .ok (.iload_n 1, 1) := by decide +kernel
theorem dX4_told_2 : decode cX4_told 2 = .ok (.invokevirtual 61, 3) := by decide +kernel
theorem dX4_told_5 : decode cX4_told 5 = .ok (.ifCond .eq 7, 3) := by decide +kernel
theorem dX4_told_8 : decode cX4_told 8 = .ok (.iconst 0, 1) := by decide +kernel
theorem dX4_told_9 : decode cX4_told 9 = .ok (.goto 10, 3) := by decide +kernel
theorem dX4_told_12 : decode cX4_told 12 = .ok (.iconst 2, 1) := by decide +kernel
theorem dX4_told_13 : decode cX4_told 13 = .ok (.aload_n 0, 1) := by decide +kernel
theorem dX4_told_14 : decode cX4_told 14 = .ok (.iload_n 1, 1) := by decide +kernel
theorem dX4_told_15 : decode cX4_told 15 = .ok (.invokevirtual 92, 3) := by decide +kernel
theorem dX4_told_18 : decode cX4_told 18 = .ok (.iadd, 1) := by decide +kernel
theorem dX4_told_19 : decode cX4_told 19 = .ok (.ireturn, 1) := by decide +kernel
theorem dX4_fetched_0 : decode cX4_fetched 0 = .ok (.aload_n 0, 1) := by decide +kernel
theorem dX4_fetched_1 : decode cX4_fetched 1 = .ok (.iload_n 1, 1) := by decide +kernel
theorem dX4_fetched_2 : decode cX4_fetched 2 = .ok (.invokevirtual 61, 3) := by decide +kernel
theorem dX4_fetched_5 : decode cX4_fetched 5 = .ok (.ifCond .eq 40, 3) := by decide +kernel
theorem dX4_fetched_8 : decode cX4_fetched 8 = .ok (.aload_n 0, 1) := by decide +kernel
theorem dX4_fetched_9 : decode cX4_fetched 9 = .ok (.getfield 9, 3) := by decide +kernel
theorem dX4_fetched_12 : decode cX4_fetched 12 = .ok (.iconst 4, 1) := by decide +kernel
theorem dX4_fetched_13 : decode cX4_fetched 13 = .ok (.iload_n 1, 1) := by decide +kernel
theorem dX4_fetched_14 : decode cX4_fetched 14 = .ok (.imul, 1) := by decide +kernel
theorem dX4_fetched_15 : decode cX4_fetched 15 = .ok (.iconst 1, 1) := by decide +kernel
theorem dX4_fetched_16 : decode cX4_fetched 16 = .ok (.iadd, 1) := by decide +kernel
theorem dX4_fetched_17 : decode cX4_fetched 17 = .ok (.iconst 1, 1) := by decide +kernel
theorem dX4_fetched_18 : decode cX4_fetched 18 = .ok (.iastore, 1) := by decide +kernel
theorem dX4_fetched_19 : decode cX4_fetched 19 = .ok (.aload_n 0, 1) := by decide +kernel
theorem dX4_fetched_20 : decode cX4_fetched 20 = .ok (.getfield 9, 3) := by decide +kernel
theorem dX4_fetched_23 : decode cX4_fetched 23 = .ok (.iconst 4, 1) := by decide +kernel
theorem dX4_fetched_24 : decode cX4_fetched 24 = .ok (.iload_n 1, 1) := by decide +kernel
theorem dX4_fetched_25 : decode cX4_fetched 25 = .ok (.imul, 1) := by decide +kernel
theorem dX4_fetched_26 : decode cX4_fetched 26 = .ok (.iconst 3, 1) := by decide +kernel
theorem dX4_fetched_27 : decode cX4_fetched 27 = .ok (.iadd, 1) := by decide +kernel
theorem dX4_fetched_28 : decode cX4_fetched 28 = .ok (.dup2, 1) := by decide +kernel
theorem dX4_fetched_29 : decode cX4_fetched 29 = .ok (.iaload, 1) := by decide +kernel
theorem dX4_fetched_30 : decode cX4_fetched 30 = .ok (.iconst 1, 1) := by decide +kernel
theorem dX4_fetched_31 : decode cX4_fetched 31 = .ok (.iadd, 1) := by decide +kernel
theorem dX4_fetched_32 : decode cX4_fetched 32 = .ok (.iastore, 1) := by decide +kernel
theorem dX4_fetched_33 : decode cX4_fetched 33 = .ok (.aload_n 0, 1) := by decide +kernel
theorem dX4_fetched_34 : decode cX4_fetched 34 = .ok (.getfield 19, 3) := by decide +kernel
theorem dX4_fetched_37 : decode cX4_fetched 37 = .ok (.iconst 2, 1) := by decide +kernel
theorem dX4_fetched_38 : decode cX4_fetched 38 = .ok (.dup2, 1) := by decide +kernel
theorem dX4_fetched_39 : decode cX4_fetched 39 = .ok (.iaload, 1) := by decide +kernel
theorem dX4_fetched_40 : decode cX4_fetched 40 = .ok (.iconst 1, 1) := by decide +kernel
theorem dX4_fetched_41 : decode cX4_fetched 41 = .ok (.iadd, 1) := by decide +kernel
theorem dX4_fetched_42 : decode cX4_fetched 42 = .ok (.iastore, 1) := by decide +kernel
theorem dX4_fetched_43 : decode cX4_fetched 43 = .ok (.iconst 0, 1) := by decide +kernel
theorem dX4_fetched_44 : decode cX4_fetched 44 = .ok (.ireturn, 1) := by decide +kernel
theorem dX4_fetched_45 : decode cX4_fetched 45 = .ok (.aload_n 0, 1) := by decide +kernel
theorem dX4_fetched_46 : decode cX4_fetched 46 = .ok (.iload_n 1, 1) := by decide +kernel
theorem dX4_fetched_47 : decode cX4_fetched 47 = .ok (.invokevirtual 92, 3) := by decide +kernel
theorem dX4_fetched_50 : decode cX4_fetched 50 = .ok (.istore_n 2, 1) := by decide +kernel
theorem dX4_fetched_51 : decode cX4_fetched 51 = .ok (.aload_n 0, 1) := by decide +kernel
theorem dX4_fetched_52 : decode cX4_fetched 52 = .ok (.getfield 19, 3) := by decide +kernel
theorem dX4_fetched_55 : decode cX4_fetched 55 = .ok (.iconst 3, 1) := by decide +kernel
theorem dX4_fetched_56 : decode cX4_fetched 56 = .ok (.dup2, 1) := by decide +kernel
theorem dX4_fetched_57 : decode cX4_fetched 57 = .ok (.iaload, 1) := by decide +kernel
theorem dX4_fetched_58 : decode cX4_fetched 58 = .ok (.iconst 1, 1) := by decide +kernel
theorem dX4_fetched_59 : decode cX4_fetched 59 = .ok (.iadd, 1) := by decide +kernel
theorem dX4_fetched_60 : decode cX4_fetched 60 = .ok (.iastore, 1) := by decide +kernel
theorem dX4_fetched_61 : decode cX4_fetched 61 = .ok (.iload_n 2, 1) := by decide +kernel
theorem dX4_fetched_62 : decode cX4_fetched 62 = .ok (.iconst (-1), 1) := by decide +kernel
theorem dX4_fetched_63 : decode cX4_fetched 63 = .ok (.if_icmp .eq 84, 3) := by decide +kernel
theorem dX4_fetched_66 : decode cX4_fetched 66 = .ok (.iconst 1, 1) := by decide +kernel
theorem dX4_fetched_67 : decode cX4_fetched 67 = .ok (.aload_n 0, 1) := by decide +kernel
theorem dX4_fetched_68 : decode cX4_fetched 68 = .ok (.iconst 1, 1) := by decide +kernel
theorem dX4_fetched_69 : decode cX4_fetched 69 = .ok (.iload_n 2, 1) := by decide +kernel
theorem dX4_fetched_70 : decode cX4_fetched 70 = .ok (.isub, 1) := by decide +kernel
theorem dX4_fetched_71 : decode cX4_fetched 71 = .ok (.invokevirtual 44, 3) := by decide +kernel
theorem dX4_fetched_74 : decode cX4_fetched 74 = .ok (.aload_n 0, 1) := by decide +kernel
theorem dX4_fetched_75 : decode cX4_fetched 75 = .ok (.iload_n 2, 1) := by decide +kernel
theorem dX4_fetched_76 : decode cX4_fetched 76 = .ok (.invokevirtual 44, 3) := by decide +kernel
theorem dX4_fetched_79 : decode cX4_fetched 79 = .ok (.idiv, 1) := by decide +kernel
theorem dX4_fetched_80 : decode cX4_fetched 80 = .ok (.invokestatic 68, 3) := by decide +kernel
theorem dX4_fetched_83 : decode cX4_fetched 83 = .ok (.istore_n 3, 1) := by decide +kernel
theorem dX4_fetched_84 : decode cX4_fetched 84 = .ok (.aload_n 0, 1) := by decide +kernel
theorem dX4_fetched_85 : decode cX4_fetched 85 = .ok (.getfield 19, 3) := by decide +kernel
theorem dX4_fetched_88 : decode cX4_fetched 88 = .ok (.iconst 1, 1) := by decide +kernel
theorem dX4_fetched_89 : decode cX4_fetched 89 = .ok (.iload_n 2, 1) := by decide +kernel
theorem dX4_fetched_90 : decode cX4_fetched 90 = .ok (.ifCond .ne 23, 3) := by decide +kernel
theorem dX4_fetched_93 : decode cX4_fetched 93 = .ok (.aload_n 0, 1) := by decide +kernel
theorem dX4_fetched_94 : decode cX4_fetched 94 = .ok (.getfield 19, 3) := by decide +kernel
theorem dX4_fetched_97 : decode cX4_fetched 97 = .ok (.iconst 0, 1) := by decide +kernel
theorem dX4_fetched_98 : decode cX4_fetched 98 = .ok (.iaload, 1) := by decide +kernel
theorem dX4_fetched_99 : decode cX4_fetched 99 = .ok (.aload_n 0, 1) := by decide +kernel
theorem dX4_fetched_100 : decode cX4_fetched 100 = .ok (.getfield 19, 3) := by decide +kernel
theorem dX4_fetched_103 : decode cX4_fetched 103 = .ok (.iconst 1, 1) := by decide +kernel
theorem dX4_fetched_104 : decode cX4_fetched 104 = .ok (.iaload, 1) := by decide +kernel
theorem dX4_fetched_105 : decode cX4_fetched 105 = .ok (.iload_n 3, 1) := by decide +kernel
theorem dX4_fetched_106 : decode cX4_fetched 106 = .ok (.iadd, 1) := by decide +kernel
theorem dX4_fetched_107 : decode cX4_fetched 107 = .ok (.invokestatic 95, 3) := by decide +kernel
theorem dX4_fetched_110 : decode cX4_fetched 110 = .ok (.goto 15, 3) := by decide +kernel
theorem dX4_fetched_113 : decode cX4_fetched 113 = .ok (.iconst 0, 1) := by decide +kernel
theorem dX4_fetched_114 : decode cX4_fetched 114 = .ok (.aload_n 0, 1) := by decide +kernel
theorem dX4_fetched_115 : decode cX4_fetched 115 = .ok (.getfield 19, 3) := by decide +kernel
theorem dX4_fetched_118 : decode cX4_fetched 118 = .ok (.iconst 1, 1) := by decide +kernel
theorem dX4_fetched_119 : decode cX4_fetched 119 = .ok (.iaload, 1) := by decide +kernel
theorem dX4_fetched_120 : decode cX4_fetched 120 = .ok (.iload_n 3, 1) := by decide +kernel
theorem dX4_fetched_121 : decode cX4_fetched 121 = .ok (.isub, 1) := by decide +kernel
theorem dX4_fetched_122 : decode cX4_fetched 122 = .ok (.invokestatic 68, 3) := by decide +kernel
theorem dX4_fetched_125 : decode cX4_fetched 125 = .ok (.iastore, 1) := by decide +kernel
theorem dX4_fetched_126 : decode cX4_fetched 126 = .ok (.aload_n 0, 1) := by decide +kernel
theorem dX4_fetched_127 : decode cX4_fetched 127 = .ok (.iload_n 2, 1) := by decide +kernel
theorem dX4_fetched_128 : decode cX4_fetched 128 = .ok (.aload_n 0, 1) := by decide +kernel
theorem dX4_fetched_129 : decode cX4_fetched 129 = .ok (.iload_n 2, 1) := by decide +kernel
theorem dX4_fetched_130 : decode cX4_fetched 130 = .ok (.iload_n 1, 1) := by decide +kernel
theorem dX4_fetched_131 : decode cX4_fetched 131 = .ok (.invokevirtual 89, 3) := by decide +kernel
theorem dX4_fetched_134 : decode cX4_fetched 134 = .ok (.invokevirtual 47, 3) := by decide +kernel
theorem dX4_fetched_137 : decode cX4_fetched 137 = .ok (.aload_n 0, 1) := by decide +kernel
theorem dX4_fetched_138 : decode cX4_fetched 138 = .ok (.getfield 19, 3) := by decide +kernel
theorem dX4_fetched_141 : decode cX4_fetched 141 = .ok (.iconst 4, 1) := by decide +kernel
theorem dX4_fetched_142 : decode cX4_fetched 142 = .ok (.dup2, 1) := by decide +kernel
theorem dX4_fetched_143 : decode cX4_fetched 143 = .ok (.iaload, 1) := by decide +kernel
theorem dX4_fetched_144 : decode cX4_fetched 144 = .ok (.iconst 1, 1) := by decide +kernel
theorem dX4_fetched_145 : decode cX4_fetched 145 = .ok (.iadd, 1) := by decide +kernel
theorem dX4_fetched_146 : decode cX4_fetched 146 = .ok (.iastore, 1) := by decide +kernel
theorem dX4_fetched_147 : decode cX4_fetched 147 = .ok (.aload_n 0, 1) := by decide +kernel
theorem dX4_fetched_148 : decode cX4_fetched 148 = .ok (.invokevirtual 82, 3) := by decide +kernel
theorem dX4_fetched_151 : decode cX4_fetched 151 = .ok (.aload_n 0, 1) := by decide +kernel
theorem dX4_fetched_152 : decode cX4_fetched 152 = .ok (.getfield 19, 3) := by decide +kernel
theorem dX4_fetched_155 : decode cX4_fetched 155 = .ok (.iconst 0, 1) := by decide +kernel
theorem dX4_fetched_156 : decode cX4_fetched 156 = .ok (.iaload, 1) := by decide +kernel
theorem dX4_fetched_157 : decode cX4_fetched 157 = .ok (.if_icmp .ne 8, 3) := by decide +kernel
theorem dX4_fetched_160 : decode cX4_fetched 160 = .ok (.aload_n 0, 1) := by decide +kernel
theorem dX4_fetched_161 : decode cX4_fetched 161 = .ok (.invokevirtual 98, 3) := by decide +kernel
theorem dX4_fetched_164 : decode cX4_fetched 164 = .ok (.pop, 1) := by decide +kernel
theorem dX4_fetched_165 : decode cX4_fetched 165 = .ok (.iconst 4, 1) := by decide +kernel
theorem dX4_fetched_166 : decode cX4_fetched 166 = .ok (.newarray .int, 2) := by decide +kernel
theorem dX4_fetched_168 : decode cX4_fetched 168 = .ok (.dup, 1) := by decide +kernel
theorem dX4_fetched_169 : decode cX4_fetched 169 = .ok (.iconst 0, 1) := by decide +kernel
theorem dX4_fetched_170 : decode cX4_fetched 170 = .ok (.iconst (-1), 1) := by decide +kernel
theorem dX4_fetched_171 : decode cX4_fetched 171 = .ok (.iastore, 1) := by decide +kernel
theorem dX4_fetched_172 : decode cX4_fetched 172 = .ok (.dup, 1) := by decide +kernel
theorem dX4_fetched_173 : decode cX4_fetched 173 = .ok (.iconst 1, 1) := by decide +kernel
theorem dX4_fetched_174 : decode cX4_fetched 174 = .ok (.iconst 0, 1) := by decide +kernel
theorem dX4_fetched_175 : decode cX4_fetched 175 = .ok (.iastore, 1) := by decide +kernel
theorem dX4_fetched_176 : decode cX4_fetched 176 = .ok (.dup, 1) := by decide +kernel
theorem dX4_fetched_177 : decode cX4_fetched 177 = .ok (.iconst 2, 1) := by decide +kernel
theorem dX4_fetched_178 : decode cX4_fetched 178 = .ok (.iconst 0, 1) := by decide +kernel
theorem dX4_fetched_179 : decode cX4_fetched 179 = .ok (.iastore, 1) := by decide +kernel
theorem dX4_fetched_180 : decode cX4_fetched 180 = .ok (.dup, 1) := by decide +kernel
theorem dX4_fetched_181 : decode cX4_fetched 181 = .ok (.iconst 3, 1) := by decide +kernel
theorem dX4_fetched_182 : decode cX4_fetched 182 = .ok (.iconst 1, 1) := by decide +kernel
theorem dX4_fetched_183 : decode cX4_fetched 183 = .ok (.iastore, 1) := by decide +kernel
theorem dX4_fetched_184 : decode cX4_fetched 184 = .ok (.astore_n 3, 1) := by decide +kernel
theorem dX4_fetched_185 : decode cX4_fetched 185 = .ok (.aload_n 3, 1) := by decide +kernel
theorem dX4_fetched_186 : decode cX4_fetched 186 = .ok (.iconst 0, 1) := by decide +kernel
theorem dX4_fetched_187 : decode cX4_fetched 187 = .ok (.aload_n 0, 1) := by decide +kernel
theorem dX4_fetched_188 : decode cX4_fetched 188 = .ok (.getfield 9, 3) := by decide +kernel
theorem dX4_fetched_191 : decode cX4_fetched 191 = .ok (.iconst 4, 1) := by decide +kernel
theorem dX4_fetched_192 : decode cX4_fetched 192 = .ok (.iload_n 1, 1) := by decide +kernel
theorem dX4_fetched_193 : decode cX4_fetched 193 = .ok (.imul, 1) := by decide +kernel
theorem dX4_fetched_194 : decode cX4_fetched 194 = .ok (.iconst 4, 1) := by decide +kernel
theorem dX4_fetched_195 : decode cX4_fetched 195 = .ok (.invokestatic 38, 3) := by decide +kernel
theorem dX4_fetched_198 : decode cX4_fetched 198 = .ok (.aload_n 0, 1) := by decide +kernel
theorem dX4_fetched_199 : decode cX4_fetched 199 = .ok (.iload_n 2, 1) := by decide +kernel
theorem dX4_fetched_200 : decode cX4_fetched 200 = .ok (.iconst (-1), 1) := by decide +kernel
theorem dX4_fetched_201 : decode cX4_fetched 201 = .ok (.if_icmp .ne 7, 3) := by decide +kernel
theorem dX4_fetched_204 : decode cX4_fetched 204 = .ok (.iconst 0, 1) := by decide +kernel
theorem dX4_fetched_205 : decode cX4_fetched 205 = .ok (.goto 4, 3) := by decide +kernel
theorem dX4_fetched_208 : decode cX4_fetched 208 = .ok (.iconst 1, 1) := by decide +kernel
theorem dX4_fetched_209 : decode cX4_fetched 209 = .ok (.iload_n 1, 1) := by decide +kernel
theorem dX4_fetched_210 : decode cX4_fetched 210 = .ok (.invokevirtual 76, 3) := by decide +kernel
theorem dX4_fetched_213 : decode cX4_fetched 213 = .ok (.iconst 2, 1) := by decide +kernel
theorem dX4_fetched_214 : decode cX4_fetched 214 = .ok (.iload_n 2, 1) := by decide +kernel
theorem dX4_fetched_215 : decode cX4_fetched 215 = .ok (.iadd, 1) := by decide +kernel
theorem dX4_fetched_216 : decode cX4_fetched 216 = .ok (.ireturn, 1) := by decide +kernel
theorem dX4_fetch_0 : decode cX4_fetch 0 = .ok (.aload_n 0, 1) := by decide +kernel
theorem dX4_fetch_1 : decode cX4_fetch 1 = .ok (.iconst 0, 1) := by decide +kernel
theorem dX4_fetch_2 : decode cX4_fetch 2 = .ok (.putfield 22, 3) := by decide +kernel
theorem dX4_fetch_5 : decode cX4_fetch 5 = .ok (.iload_n 1, 1) := by decide +kernel
theorem dX4_fetch_6 : decode cX4_fetch 6 = .ok (.invokestatic 101, 3) := by decide +kernel
theorem dX4_fetch_9 : decode cX4_fetch 9 = .ok (.ifCond .ne 9, 3) := by decide +kernel
theorem dX4_fetch_12 : decode cX4_fetch 12 = .ok (.aload_n 0, 1) := by decide +kernel
theorem dX4_fetch_13 : decode cX4_fetch 13 = .ok (.iconst 1, 1) := by decide +kernel
theorem dX4_fetch_14 : decode cX4_fetch 14 = .ok (.invokevirtual 104, 3) := by decide +kernel
theorem dX4_fetch_17 : decode cX4_fetch 17 = .ok (.ireturn, 1) := by decide +kernel
theorem dX4_fetch_18 : decode cX4_fetch 18 = .ok (.aload_n 0, 1) := by decide +kernel
theorem dX4_fetch_19 : decode cX4_fetch 19 = .ok (.iload_n 1, 1) := by decide +kernel
theorem dX4_fetch_20 : decode cX4_fetch 20 = .ok (.invokevirtual 107, 3) := by decide +kernel
theorem dX4_fetch_23 : decode cX4_fetch 23 = .ok (.ifCond .eq 11, 3) := by decide +kernel
theorem dX4_fetch_26 : decode cX4_fetch 26 = .ok (.aload_n 0, 1) := by decide +kernel
theorem dX4_fetch_27 : decode cX4_fetch 27 = .ok (.iload_n 1, 1) := by decide +kernel
theorem dX4_fetch_28 : decode cX4_fetch 28 = .ok (.invokevirtual 110, 3) := by decide +kernel
theorem dX4_fetch_31 : decode cX4_fetch 31 = .ok (.goto 8, 3) := by decide +kernel
theorem dX4_fetch_34 : decode cX4_fetch 34 = .ok (.aload_n 0, 1) := by decide +kernel
theorem dX4_fetch_35 : decode cX4_fetch 35 = .ok (.iconst 2, 1) := by decide +kernel
theorem dX4_fetch_36 : decode cX4_fetch 36 = .ok (.invokevirtual 104, 3) := by decide +kernel
theorem dX4_fetch_39 : decode cX4_fetch 39 = .ok (.ireturn, 1) := by decide +kernel
theorem dX4_hits_0 : decode cX4_hits 0 = .ok (.aload_n 0, 1) := by decide +kernel
theorem dX4_hits_1 : decode cX4_hits 1 = .ok (.getfield 19, 3) := by decide +kernel
theorem dX4_hits_4 : decode cX4_hits 4 = .ok (.iconst 2, 1) := by decide +kernel
theorem dX4_hits_5 : decode cX4_hits 5 = .ok (.iaload, 1) := by decide +kernel
theorem dX4_hits_6 : decode cX4_hits 6 = .ok (.istore 4, 2) := by decide +kernel
theorem dX4_hits_8 : decode cX4_hits 8 = .ok (.iconst 0, 1) := by decide +kernel
theorem dX4_hits_9 : decode cX4_hits 9 = .ok (.istore 5, 2) := by decide +kernel
theorem dX4_hits_11 : decode cX4_hits 11 = .ok (.iload 5, 2) := by decide +kernel
theorem dX4_hits_13 : decode cX4_hits 13 = .ok (.iload_n 3, 1) := by decide +kernel
theorem dX4_hits_14 : decode cX4_hits 14 = .ok (.if_icmp .ge 39, 3) := by decide +kernel
theorem dX4_hits_17 : decode cX4_hits 17 = .ok (.aload_n 0, 1) := by decide +kernel
theorem dX4_hits_18 : decode cX4_hits 18 = .ok (.iload_n 1, 1) := by decide +kernel
theorem dX4_hits_19 : decode cX4_hits 19 = .ok (.iload 5, 2) := by decide +kernel
theorem dX4_hits_21 : decode cX4_hits 21 = .ok (.iload_n 2, 1) := by decide +kernel
theorem dX4_hits_22 : decode cX4_hits 22 = .ok (.imul, 1) := by decide +kernel
theorem dX4_hits_23 : decode cX4_hits 23 = .ok (.iadd, 1) := by decide +kernel
theorem dX4_hits_24 : decode cX4_hits 24 = .ok (.bipush 40, 2) := by decide +kernel
theorem dX4_hits_26 : decode cX4_hits 26 = .ok (.irem, 1) := by decide +kernel
theorem dX4_hits_27 : decode cX4_hits 27 = .ok (.invokevirtual 107, 3) := by decide +kernel
theorem dX4_hits_30 : decode cX4_hits 30 = .ok (.ifCond .eq 17, 3) := by decide +kernel
theorem dX4_hits_33 : decode cX4_hits 33 = .ok (.aload_n 0, 1) := by decide +kernel
theorem dX4_hits_34 : decode cX4_hits 34 = .ok (.iload_n 1, 1) := by decide +kernel
theorem dX4_hits_35 : decode cX4_hits 35 = .ok (.iload 5, 2) := by decide +kernel
theorem dX4_hits_37 : decode cX4_hits 37 = .ok (.iload_n 2, 1) := by decide +kernel
theorem dX4_hits_38 : decode cX4_hits 38 = .ok (.imul, 1) := by decide +kernel
theorem dX4_hits_39 : decode cX4_hits 39 = .ok (.iadd, 1) := by decide +kernel
theorem dX4_hits_40 : decode cX4_hits 40 = .ok (.bipush 40, 2) := by decide +kernel
theorem dX4_hits_42 : decode cX4_hits 42 = .ok (.irem, 1) := by decide +kernel
theorem dX4_hits_43 : decode cX4_hits 43 = .ok (.invokevirtual 110, 3) := by decide +kernel
theorem dX4_hits_46 : decode cX4_hits 46 = .ok (.pop, 1) := by decide +kernel
theorem dX4_hits_47 : decode cX4_hits 47 = .ok (.iinc 5 1, 3) := by decide +kernel
theorem dX4_hits_50 : decode cX4_hits 50 = .ok (.goto (-39), 3) := by decide +kernel
theorem dX4_hits_53 : decode cX4_hits 53 = .ok (.aload_n 0, 1) := by decide +kernel
theorem dX4_hits_54 : decode cX4_hits 54 = .ok (.getfield 19, 3) := by decide +kernel
theorem dX4_hits_57 : decode cX4_hits 57 = .ok (.iconst 2, 1) := by decide +kernel
theorem dX4_hits_58 : decode cX4_hits 58 = .ok (.iaload, 1) := by decide +kernel
theorem dX4_hits_59 : decode cX4_hits 59 = .ok (.iload 4, 2) := by decide +kernel
theorem dX4_hits_61 : decode cX4_hits 61 = .ok (.isub, 1) := by decide +kernel
theorem dX4_hits_62 : decode cX4_hits 62 = .ok (.ireturn, 1) := by decide +kernel
theorem dX4_wrong_0 : decode cX4_wrong 0 = .ok (.iload_n 1, 1) := by decide +kernel
theorem dX4_wrong_1 : decode cX4_wrong 1 = .ok (.invokestatic 101, 3) := by decide +kernel
theorem dX4_wrong_4 : decode cX4_wrong 4 = .ok (.ifCond .ne 7, 3) := by decide +kernel
theorem dX4_wrong_7 : decode cX4_wrong 7 = .ok (.iconst 1, 1) := by decide +kernel
theorem dX4_wrong_8 : decode cX4_wrong 8 = .ok (.goto 28, 3) := by decide +kernel
theorem dX4_wrong_11 : decode cX4_wrong 11 = .ok (.iload_n 2, 1) := by decide +kernel
theorem dX4_wrong_12 : decode cX4_wrong 12 = .ok (.iconst 0, 1) := by decide +kernel
theorem dX4_wrong_13 : decode cX4_wrong 13 = .ok (.bipush 39, 2) := by decide +kernel
theorem dX4_wrong_15 : decode cX4_wrong 15 = .ok (.invokestatic 26, 3) := by decide +kernel
theorem dX4_wrong_18 : decode cX4_wrong 18 = .ok (.ifCond .eq 17, 3) := by decide +kernel
theorem dX4_wrong_21 : decode cX4_wrong 21 = .ok (.iload_n 3, 1) := by decide +kernel
theorem dX4_wrong_22 : decode cX4_wrong 22 = .ok (.iconst 1, 1) := by decide +kernel
theorem dX4_wrong_23 : decode cX4_wrong 23 = .ok (.bipush 30, 2) := by decide +kernel
theorem dX4_wrong_25 : decode cX4_wrong 25 = .ok (.invokestatic 26, 3) := by decide +kernel
theorem dX4_wrong_28 : decode cX4_wrong 28 = .ok (.ifCond .eq 7, 3) := by decide +kernel
theorem dX4_wrong_31 : decode cX4_wrong 31 = .ok (.iconst 0, 1) := by decide +kernel
theorem dX4_wrong_32 : decode cX4_wrong 32 = .ok (.goto 4, 3) := by decide +kernel
theorem dX4_wrong_35 : decode cX4_wrong 35 = .ok (.iconst 2, 1) := by decide +kernel
theorem dX4_wrong_36 : decode cX4_wrong 36 = .ok (.ireturn, 1) := by decide +kernel
theorem dX4_fetchAll_0 : decode cX4_fetchAll 0 = .ok (.aload_n 0, 1) := by decide +kernel
theorem dX4_fetchAll_1 : decode cX4_fetchAll 1 = .ok (.aload_n 0, 1) := by decide +kernel
theorem dX4_fetchAll_2 : decode cX4_fetchAll 2 = .ok (.iload_n 1, 1) := by decide +kernel
theorem dX4_fetchAll_3 : decode cX4_fetchAll 3 = .ok (.iload_n 2, 1) := by decide +kernel
theorem dX4_fetchAll_4 : decode cX4_fetchAll 4 = .ok (.iload_n 3, 1) := by decide +kernel
theorem dX4_fetchAll_5 : decode cX4_fetchAll 5 = .ok (.invokevirtual 113, 3) := by decide +kernel
theorem dX4_fetchAll_8 : decode cX4_fetchAll 8 = .ok (.putfield 22, 3) := by decide +kernel
theorem dX4_fetchAll_11 : decode cX4_fetchAll 11 = .ok (.aload_n 0, 1) := by decide +kernel
theorem dX4_fetchAll_12 : decode cX4_fetchAll 12 = .ok (.getfield 22, 3) := by decide +kernel
theorem dX4_fetchAll_15 : decode cX4_fetchAll 15 = .ok (.ifCond .ne 13, 3) := by decide +kernel
theorem dX4_fetchAll_18 : decode cX4_fetchAll 18 = .ok (.aload_n 0, 1) := by decide +kernel
theorem dX4_fetchAll_19 : decode cX4_fetchAll 19 = .ok (.iload_n 1, 1) := by decide +kernel
theorem dX4_fetchAll_20 : decode cX4_fetchAll 20 = .ok (.iload_n 2, 1) := by decide +kernel
theorem dX4_fetchAll_21 : decode cX4_fetchAll 21 = .ok (.iload_n 3, 1) := by decide +kernel
theorem dX4_fetchAll_22 : decode cX4_fetchAll 22 = .ok (.invokevirtual 117, 3) := by decide +kernel
theorem dX4_fetchAll_25 : decode cX4_fetchAll 25 = .ok (.goto 4, 3) := by decide +kernel
theorem dX4_fetchAll_28 : decode cX4_fetchAll 28 = .ok (.iconst 0, 1) := by decide +kernel
theorem dX4_fetchAll_29 : decode cX4_fetchAll 29 = .ok (.ireturn, 1) := by decide +kernel
theorem dX4_pin_0 : decode cX4_pin 0 = .ok (.aload_n 0, 1) := by decide +kernel
theorem dX4_pin_1 : decode cX4_pin 1 = .ok (.iconst 0, 1) := by decide +kernel
theorem dX4_pin_2 : decode cX4_pin 2 = .ok (.putfield 22, 3) := by decide +kernel
theorem dX4_pin_5 : decode cX4_pin 5 = .ok (.iload_n 1, 1) := by decide +kernel
theorem dX4_pin_6 : decode cX4_pin 6 = .ok (.invokestatic 101, 3) := by decide +kernel
theorem dX4_pin_9 : decode cX4_pin 9 = .ok (.ifCond .ne 9, 3) := by decide +kernel
theorem dX4_pin_12 : decode cX4_pin 12 = .ok (.aload_n 0, 1) := by decide +kernel
theorem dX4_pin_13 : decode cX4_pin 13 = .ok (.iconst 1, 1) := by decide +kernel
theorem dX4_pin_14 : decode cX4_pin 14 = .ok (.invokevirtual 104, 3) := by decide +kernel
theorem dX4_pin_17 : decode cX4_pin 17 = .ok (.ireturn, 1) := by decide +kernel
theorem dX4_pin_18 : decode cX4_pin 18 = .ok (.aload_n 0, 1) := by decide +kernel
theorem dX4_pin_19 : decode cX4_pin 19 = .ok (.iload_n 1, 1) := by decide +kernel
theorem dX4_pin_20 : decode cX4_pin 20 = .ok (.invokevirtual 61, 3) := by decide +kernel
theorem dX4_pin_23 : decode cX4_pin 23 = .ok (.ifCond .eq 14, 3) := by decide +kernel
theorem dX4_pin_26 : decode cX4_pin 26 = .ok (.aload_n 0, 1) := by decide +kernel
theorem dX4_pin_27 : decode cX4_pin 27 = .ok (.iload_n 1, 1) := by decide +kernel
theorem dX4_pin_28 : decode cX4_pin 28 = .ok (.iconst 2, 1) := by decide +kernel
theorem dX4_pin_29 : decode cX4_pin 29 = .ok (.invokevirtual 30, 3) := by decide +kernel
theorem dX4_pin_32 : decode cX4_pin 32 = .ok (.bipush 9, 2) := by decide +kernel
theorem dX4_pin_34 : decode cX4_pin 34 = .ok (.if_icmp .ne 9, 3) := by decide +kernel
theorem dX4_pin_37 : decode cX4_pin 37 = .ok (.aload_n 0, 1) := by decide +kernel
theorem dX4_pin_38 : decode cX4_pin 38 = .ok (.iconst 2, 1) := by decide +kernel
theorem dX4_pin_39 : decode cX4_pin 39 = .ok (.invokevirtual 104, 3) := by decide +kernel
theorem dX4_pin_42 : decode cX4_pin 42 = .ok (.ireturn, 1) := by decide +kernel
theorem dX4_pin_43 : decode cX4_pin 43 = .ok (.aload_n 0, 1) := by decide +kernel
theorem dX4_pin_44 : decode cX4_pin 44 = .ok (.getfield 9, 3) := by decide +kernel
theorem dX4_pin_47 : decode cX4_pin 47 = .ok (.iconst 4, 1) := by decide +kernel
theorem dX4_pin_48 : decode cX4_pin 48 = .ok (.iload_n 1, 1) := by decide +kernel
theorem dX4_pin_49 : decode cX4_pin 49 = .ok (.imul, 1) := by decide +kernel
theorem dX4_pin_50 : decode cX4_pin 50 = .ok (.iconst 2, 1) := by decide +kernel
theorem dX4_pin_51 : decode cX4_pin 51 = .ok (.iadd, 1) := by decide +kernel
theorem dX4_pin_52 : decode cX4_pin 52 = .ok (.dup2, 1) := by decide +kernel
theorem dX4_pin_53 : decode cX4_pin 53 = .ok (.iaload, 1) := by decide +kernel
theorem dX4_pin_54 : decode cX4_pin 54 = .ok (.iconst 1, 1) := by decide +kernel
theorem dX4_pin_55 : decode cX4_pin 55 = .ok (.iadd, 1) := by decide +kernel
theorem dX4_pin_56 : decode cX4_pin 56 = .ok (.iastore, 1) := by decide +kernel
theorem dX4_pin_57 : decode cX4_pin 57 = .ok (.aload_n 0, 1) := by decide +kernel
theorem dX4_pin_58 : decode cX4_pin 58 = .ok (.iload_n 1, 1) := by decide +kernel
theorem dX4_pin_59 : decode cX4_pin 59 = .ok (.iconst 2, 1) := by decide +kernel
theorem dX4_pin_60 : decode cX4_pin 60 = .ok (.invokevirtual 30, 3) := by decide +kernel
theorem dX4_pin_63 : decode cX4_pin 63 = .ok (.ireturn, 1) := by decide +kernel
theorem dX4_unpin_0 : decode cX4_unpin 0 = .ok (.aload_n 0, 1) := by decide +kernel
theorem dX4_unpin_1 : decode cX4_unpin 1 = .ok (.iconst 0, 1) := by decide +kernel
theorem dX4_unpin_2 : decode cX4_unpin 2 = .ok (.putfield 22, 3) := by decide +kernel
theorem dX4_unpin_5 : decode cX4_unpin 5 = .ok (.iload_n 1, 1) := by decide +kernel
theorem dX4_unpin_6 : decode cX4_unpin 6 = .ok (.invokestatic 101, 3) := by decide +kernel
theorem dX4_unpin_9 : decode cX4_unpin 9 = .ok (.ifCond .ne 9, 3) := by decide +kernel
theorem dX4_unpin_12 : decode cX4_unpin 12 = .ok (.aload_n 0, 1) := by decide +kernel
theorem dX4_unpin_13 : decode cX4_unpin 13 = .ok (.iconst 1, 1) := by decide +kernel
theorem dX4_unpin_14 : decode cX4_unpin 14 = .ok (.invokevirtual 104, 3) := by decide +kernel
theorem dX4_unpin_17 : decode cX4_unpin 17 = .ok (.ireturn, 1) := by decide +kernel
theorem dX4_unpin_18 : decode cX4_unpin 18 = .ok (.aload_n 0, 1) := by decide +kernel
theorem dX4_unpin_19 : decode cX4_unpin 19 = .ok (.iload_n 1, 1) := by decide +kernel
theorem dX4_unpin_20 : decode cX4_unpin 20 = .ok (.invokevirtual 61, 3) := by decide +kernel
theorem dX4_unpin_23 : decode cX4_unpin 23 = .ok (.ifCond .eq 12, 3) := by decide +kernel
theorem dX4_unpin_26 : decode cX4_unpin 26 = .ok (.aload_n 0, 1) := by decide +kernel
theorem dX4_unpin_27 : decode cX4_unpin 27 = .ok (.iload_n 1, 1) := by decide +kernel
theorem dX4_unpin_28 : decode cX4_unpin 28 = .ok (.iconst 2, 1) := by decide +kernel
theorem dX4_unpin_29 : decode cX4_unpin 29 = .ok (.invokevirtual 30, 3) := by decide +kernel
theorem dX4_unpin_32 : decode cX4_unpin 32 = .ok (.ifCond .ne 9, 3) := by decide +kernel
theorem dX4_unpin_35 : decode cX4_unpin 35 = .ok (.aload_n 0, 1) := by decide +kernel
theorem dX4_unpin_36 : decode cX4_unpin 36 = .ok (.iconst 2, 1) := by decide +kernel
theorem dX4_unpin_37 : decode cX4_unpin 37 = .ok (.invokevirtual 104, 3) := by decide +kernel
theorem dX4_unpin_40 : decode cX4_unpin 40 = .ok (.ireturn, 1) := by decide +kernel
theorem dX4_unpin_41 : decode cX4_unpin 41 = .ok (.aload_n 0, 1) := by decide +kernel
theorem dX4_unpin_42 : decode cX4_unpin 42 = .ok (.getfield 9, 3) := by decide +kernel
theorem dX4_unpin_45 : decode cX4_unpin 45 = .ok (.iconst 4, 1) := by decide +kernel
theorem dX4_unpin_46 : decode cX4_unpin 46 = .ok (.iload_n 1, 1) := by decide +kernel
theorem dX4_unpin_47 : decode cX4_unpin 47 = .ok (.imul, 1) := by decide +kernel
theorem dX4_unpin_48 : decode cX4_unpin 48 = .ok (.iconst 2, 1) := by decide +kernel
theorem dX4_unpin_49 : decode cX4_unpin 49 = .ok (.iadd, 1) := by decide +kernel
theorem dX4_unpin_50 : decode cX4_unpin 50 = .ok (.dup2, 1) := by decide +kernel
theorem dX4_unpin_51 : decode cX4_unpin 51 = .ok (.iaload, 1) := by decide +kernel
theorem dX4_unpin_52 : decode cX4_unpin 52 = .ok (.iconst 1, 1) := by decide +kernel
theorem dX4_unpin_53 : decode cX4_unpin 53 = .ok (.isub, 1) := by decide +kernel
theorem dX4_unpin_54 : decode cX4_unpin 54 = .ok (.iastore, 1) := by decide +kernel
theorem dX4_unpin_55 : decode cX4_unpin 55 = .ok (.aload_n 0, 1) := by decide +kernel
theorem dX4_unpin_56 : decode cX4_unpin 56 = .ok (.iload_n 1, 1) := by decide +kernel
theorem dX4_unpin_57 : decode cX4_unpin 57 = .ok (.iconst 2, 1) := by decide +kernel
theorem dX4_unpin_58 : decode cX4_unpin 58 = .ok (.invokevirtual 30, 3) := by decide +kernel
theorem dX4_unpin_61 : decode cX4_unpin 61 = .ok (.ireturn, 1) := by decide +kernel
theorem dX4_eat_0 : decode cX4_eat 0 = .ok (.aload_n 0, 1) := by decide +kernel
theorem dX4_eat_1 : decode cX4_eat 1 = .ok (.iconst 0, 1) := by decide +kernel
theorem dX4_eat_2 : decode cX4_eat 2 = .ok (.putfield 22, 3) := by decide +kernel
theorem dX4_eat_5 : decode cX4_eat 5 = .ok (.iload_n 1, 1) := by decide +kernel
theorem dX4_eat_6 : decode cX4_eat 6 = .ok (.invokestatic 101, 3) := by decide +kernel
theorem dX4_eat_9 : decode cX4_eat 9 = .ok (.ifCond .ne 9, 3) := by decide +kernel
theorem dX4_eat_12 : decode cX4_eat 12 = .ok (.aload_n 0, 1) := by decide +kernel
theorem dX4_eat_13 : decode cX4_eat 13 = .ok (.iconst 1, 1) := by decide +kernel
theorem dX4_eat_14 : decode cX4_eat 14 = .ok (.invokevirtual 104, 3) := by decide +kernel
theorem dX4_eat_17 : decode cX4_eat 17 = .ok (.ireturn, 1) := by decide +kernel
theorem dX4_eat_18 : decode cX4_eat 18 = .ok (.aload_n 0, 1) := by decide +kernel
theorem dX4_eat_19 : decode cX4_eat 19 = .ok (.iload_n 1, 1) := by decide +kernel
theorem dX4_eat_20 : decode cX4_eat 20 = .ok (.invokevirtual 61, 3) := by decide +kernel
theorem dX4_eat_23 : decode cX4_eat 23 = .ok (.ifCond .eq 12, 3) := by decide +kernel
theorem dX4_eat_26 : decode cX4_eat 26 = .ok (.aload_n 0, 1) := by decide +kernel
theorem dX4_eat_27 : decode cX4_eat 27 = .ok (.iload_n 1, 1) := by decide +kernel
theorem dX4_eat_28 : decode cX4_eat 28 = .ok (.iconst 2, 1) := by decide +kernel
theorem dX4_eat_29 : decode cX4_eat 29 = .ok (.invokevirtual 30, 3) := by decide +kernel
theorem dX4_eat_32 : decode cX4_eat 32 = .ok (.ifCond .le 9, 3) := by decide +kernel
theorem dX4_eat_35 : decode cX4_eat 35 = .ok (.aload_n 0, 1) := by decide +kernel
theorem dX4_eat_36 : decode cX4_eat 36 = .ok (.iconst 2, 1) := by decide +kernel
theorem dX4_eat_37 : decode cX4_eat 37 = .ok (.invokevirtual 104, 3) := by decide +kernel
theorem dX4_eat_40 : decode cX4_eat 40 = .ok (.ireturn, 1) := by decide +kernel
theorem dX4_eat_41 : decode cX4_eat 41 = .ok (.aload_n 0, 1) := by decide +kernel
theorem dX4_eat_42 : decode cX4_eat 42 = .ok (.aload_n 0, 1) := by decide +kernel
theorem dX4_eat_43 : decode cX4_eat 43 = .ok (.iload_n 1, 1) := by decide +kernel
theorem dX4_eat_44 : decode cX4_eat 44 = .ok (.iconst 0, 1) := by decide +kernel
theorem dX4_eat_45 : decode cX4_eat 45 = .ok (.invokevirtual 30, 3) := by decide +kernel
theorem dX4_eat_48 : decode cX4_eat 48 = .ok (.aload_n 0, 1) := by decide +kernel
theorem dX4_eat_49 : decode cX4_eat 49 = .ok (.iload_n 1, 1) := by decide +kernel
theorem dX4_eat_50 : decode cX4_eat 50 = .ok (.invokevirtual 120, 3) := by decide +kernel
theorem dX4_eat_53 : decode cX4_eat 53 = .ok (.invokevirtual 73, 3) := by decide +kernel
theorem dX4_eat_56 : decode cX4_eat 56 = .ok (.aload_n 0, 1) := by decide +kernel
theorem dX4_eat_57 : decode cX4_eat 57 = .ok (.getfield 9, 3) := by decide +kernel
theorem dX4_eat_60 : decode cX4_eat 60 = .ok (.iconst 4, 1) := by decide +kernel
theorem dX4_eat_61 : decode cX4_eat 61 = .ok (.iload_n 1, 1) := by decide +kernel
theorem dX4_eat_62 : decode cX4_eat 62 = .ok (.imul, 1) := by decide +kernel
theorem dX4_eat_63 : decode cX4_eat 63 = .ok (.iconst 0, 1) := by decide +kernel
theorem dX4_eat_64 : decode cX4_eat 64 = .ok (.iadd, 1) := by decide +kernel
theorem dX4_eat_65 : decode cX4_eat 65 = .ok (.iconst (-1), 1) := by decide +kernel
theorem dX4_eat_66 : decode cX4_eat 66 = .ok (.iastore, 1) := by decide +kernel
theorem dX4_eat_67 : decode cX4_eat 67 = .ok (.aload_n 0, 1) := by decide +kernel
theorem dX4_eat_68 : decode cX4_eat 68 = .ok (.iload_n 1, 1) := by decide +kernel
theorem dX4_eat_69 : decode cX4_eat 69 = .ok (.iconst 3, 1) := by decide +kernel
theorem dX4_eat_70 : decode cX4_eat 70 = .ok (.invokevirtual 30, 3) := by decide +kernel
theorem dX4_eat_73 : decode cX4_eat 73 = .ok (.ireturn, 1) := by decide +kernel
theorem dX4_place_0 : decode cX4_place 0 = .ok (.aload_n 0, 1) := by decide +kernel
theorem dX4_place_1 : decode cX4_place 1 = .ok (.getfield 19, 3) := by decide +kernel
theorem dX4_place_4 : decode cX4_place 4 = .ok (.iconst 0, 1) := by decide +kernel
theorem dX4_place_5 : decode cX4_place 5 = .ok (.iload_n 1, 1) := by decide +kernel
theorem dX4_place_6 : decode cX4_place 6 = .ok (.iastore, 1) := by decide +kernel
theorem dX4_place_7 : decode cX4_place 7 = .ok (.aload_n 0, 1) := by decide +kernel
theorem dX4_place_8 : decode cX4_place 8 = .ok (.invokevirtual 82, 3) := by decide +kernel
theorem dX4_place_11 : decode cX4_place 11 = .ok (.iload_n 1, 1) := by decide +kernel
theorem dX4_place_12 : decode cX4_place 12 = .ok (.if_icmp .le 11, 3) := by decide +kernel
theorem dX4_place_15 : decode cX4_place 15 = .ok (.aload_n 0, 1) := by decide +kernel
theorem dX4_place_16 : decode cX4_place 16 = .ok (.invokevirtual 98, 3) := by decide +kernel
theorem dX4_place_19 : decode cX4_place 19 = .ok (.pop, 1) := by decide +kernel
theorem dX4_place_20 : decode cX4_place 20 = .ok (.goto (-13), 3) := by decide +kernel
theorem dX4_place_23 : decode cX4_place 23 = .ok (.aload_n 0, 1) := by decide +kernel
theorem dX4_place_24 : decode cX4_place 24 = .ok (.getfield 19, 3) := by decide +kernel
theorem dX4_place_27 : decode cX4_place 27 = .ok (.iconst 1, 1) := by decide +kernel
theorem dX4_place_28 : decode cX4_place 28 = .ok (.iload_n 1, 1) := by decide +kernel
theorem dX4_place_29 : decode cX4_place 29 = .ok (.aload_n 0, 1) := by decide +kernel
theorem dX4_place_30 : decode cX4_place 30 = .ok (.getfield 19, 3) := by decide +kernel
theorem dX4_place_33 : decode cX4_place 33 = .ok (.iconst 1, 1) := by decide +kernel
theorem dX4_place_34 : decode cX4_place 34 = .ok (.iaload, 1) := by decide +kernel
theorem dX4_place_35 : decode cX4_place 35 = .ok (.invokestatic 95, 3) := by decide +kernel
theorem dX4_place_38 : decode cX4_place 38 = .ok (.iastore, 1) := by decide +kernel
theorem dX4_place_39 : decode cX4_place 39 = .ok (.aload_n 0, 1) := by decide +kernel
theorem dX4_place_40 : decode cX4_place 40 = .ok (.iconst 0, 1) := by decide +kernel
theorem dX4_place_41 : decode cX4_place 41 = .ok (.invokevirtual 51, 3) := by decide +kernel
theorem dX4_place_44 : decode cX4_place 44 = .ok (.aload_n 0, 1) := by decide +kernel
theorem dX4_place_45 : decode cX4_place 45 = .ok (.iconst 1, 1) := by decide +kernel
theorem dX4_place_46 : decode cX4_place 46 = .ok (.invokevirtual 51, 3) := by decide +kernel
theorem dX4_place_49 : decode cX4_place 49 = .ok (.return_, 1) := by decide +kernel
theorem dX4_setPlaces_0 : decode cX4_setPlaces 0 = .ok (.aload_n 0, 1) := by decide +kernel
theorem dX4_setPlaces_1 : decode cX4_setPlaces 1 = .ok (.iconst 0, 1) := by decide +kernel
theorem dX4_setPlaces_2 : decode cX4_setPlaces 2 = .ok (.putfield 22, 3) := by decide +kernel
theorem dX4_setPlaces_5 : decode cX4_setPlaces 5 = .ok (.iload_n 1, 1) := by decide +kernel
theorem dX4_setPlaces_6 : decode cX4_setPlaces 6 = .ok (.iconst 2, 1) := by decide +kernel
theorem dX4_setPlaces_7 : decode cX4_setPlaces 7 = .ok (.bipush 12, 2) := by decide +kernel
theorem dX4_setPlaces_9 : decode cX4_setPlaces 9 = .ok (.invokestatic 26, 3) := by decide +kernel
theorem dX4_setPlaces_12 : decode cX4_setPlaces 12 = .ok (.ifCond .ne 9, 3) := by decide +kernel
theorem dX4_setPlaces_15 : decode cX4_setPlaces 15 = .ok (.aload_n 0, 1) := by decide +kernel
theorem dX4_setPlaces_16 : decode cX4_setPlaces 16 = .ok (.iconst 1, 1) := by decide +kernel
theorem dX4_setPlaces_17 : decode cX4_setPlaces 17 = .ok (.invokevirtual 104, 3) := by decide +kernel
theorem dX4_setPlaces_20 : decode cX4_setPlaces 20 = .ok (.ireturn, 1) := by decide +kernel
theorem dX4_setPlaces_21 : decode cX4_setPlaces 21 = .ok (.aload_n 0, 1) := by decide +kernel
theorem dX4_setPlaces_22 : decode cX4_setPlaces 22 = .ok (.invokevirtual 86, 3) := by decide +kernel
theorem dX4_setPlaces_25 : decode cX4_setPlaces 25 = .ok (.iload_n 1, 1) := by decide +kernel
theorem dX4_setPlaces_26 : decode cX4_setPlaces 26 = .ok (.if_icmp .le 9, 3) := by decide +kernel
theorem dX4_setPlaces_29 : decode cX4_setPlaces 29 = .ok (.aload_n 0, 1) := by decide +kernel
theorem dX4_setPlaces_30 : decode cX4_setPlaces 30 = .ok (.iconst 2, 1) := by decide +kernel
theorem dX4_setPlaces_31 : decode cX4_setPlaces 31 = .ok (.invokevirtual 104, 3) := by decide +kernel
theorem dX4_setPlaces_34 : decode cX4_setPlaces 34 = .ok (.ireturn, 1) := by decide +kernel
theorem dX4_setPlaces_35 : decode cX4_setPlaces 35 = .ok (.aload_n 0, 1) := by decide +kernel
theorem dX4_setPlaces_36 : decode cX4_setPlaces 36 = .ok (.getfield 19, 3) := by decide +kernel
theorem dX4_setPlaces_39 : decode cX4_setPlaces 39 = .ok (.iconst 0, 1) := by decide +kernel
theorem dX4_setPlaces_40 : decode cX4_setPlaces 40 = .ok (.iaload, 1) := by decide +kernel
theorem dX4_setPlaces_41 : decode cX4_setPlaces 41 = .ok (.istore_n 2, 1) := by decide +kernel
theorem dX4_setPlaces_42 : decode cX4_setPlaces 42 = .ok (.aload_n 0, 1) := by decide +kernel
theorem dX4_setPlaces_43 : decode cX4_setPlaces 43 = .ok (.iload_n 1, 1) := by decide +kernel
theorem dX4_setPlaces_44 : decode cX4_setPlaces 44 = .ok (.invokevirtual 123, 3) := by decide +kernel
theorem dX4_setPlaces_47 : decode cX4_setPlaces 47 = .ok (.iload_n 2, 1) := by decide +kernel
theorem dX4_setPlaces_48 : decode cX4_setPlaces 48 = .ok (.ireturn, 1) := by decide +kernel
theorem dX4_setGoal_0 : decode cX4_setGoal 0 = .ok (.aload_n 0, 1) := by decide +kernel
theorem dX4_setGoal_1 : decode cX4_setGoal 1 = .ok (.iconst 0, 1) := by decide +kernel
theorem dX4_setGoal_2 : decode cX4_setGoal 2 = .ok (.putfield 22, 3) := by decide +kernel
theorem dX4_setGoal_5 : decode cX4_setGoal 5 = .ok (.iload_n 1, 1) := by decide +kernel
theorem dX4_setGoal_6 : decode cX4_setGoal 6 = .ok (.iconst 0, 1) := by decide +kernel
theorem dX4_setGoal_7 : decode cX4_setGoal 7 = .ok (.aload_n 0, 1) := by decide +kernel
theorem dX4_setGoal_8 : decode cX4_setGoal 8 = .ok (.getfield 19, 3) := by decide +kernel
theorem dX4_setGoal_11 : decode cX4_setGoal 11 = .ok (.iconst 0, 1) := by decide +kernel
theorem dX4_setGoal_12 : decode cX4_setGoal 12 = .ok (.iaload, 1) := by decide +kernel
theorem dX4_setGoal_13 : decode cX4_setGoal 13 = .ok (.invokestatic 26, 3) := by decide +kernel
theorem dX4_setGoal_16 : decode cX4_setGoal 16 = .ok (.ifCond .ne 9, 3) := by decide +kernel
theorem dX4_setGoal_19 : decode cX4_setGoal 19 = .ok (.aload_n 0, 1) := by decide +kernel
theorem dX4_setGoal_20 : decode cX4_setGoal 20 = .ok (.iconst 1, 1) := by decide +kernel
theorem dX4_setGoal_21 : decode cX4_setGoal 21 = .ok (.invokevirtual 104, 3) := by decide +kernel
theorem dX4_setGoal_24 : decode cX4_setGoal 24 = .ok (.ireturn, 1) := by decide +kernel
theorem dX4_setGoal_25 : decode cX4_setGoal 25 = .ok (.aload_n 0, 1) := by decide +kernel
theorem dX4_setGoal_26 : decode cX4_setGoal 26 = .ok (.getfield 19, 3) := by decide +kernel
theorem dX4_setGoal_29 : decode cX4_setGoal 29 = .ok (.iconst 1, 1) := by decide +kernel
theorem dX4_setGoal_30 : decode cX4_setGoal 30 = .ok (.iaload, 1) := by decide +kernel
theorem dX4_setGoal_31 : decode cX4_setGoal 31 = .ok (.istore_n 2, 1) := by decide +kernel
theorem dX4_setGoal_32 : decode cX4_setGoal 32 = .ok (.aload_n 0, 1) := by decide +kernel
theorem dX4_setGoal_33 : decode cX4_setGoal 33 = .ok (.getfield 19, 3) := by decide +kernel
theorem dX4_setGoal_36 : decode cX4_setGoal 36 = .ok (.iconst 1, 1) := by decide +kernel
theorem dX4_setGoal_37 : decode cX4_setGoal 37 = .ok (.iload_n 1, 1) := by decide +kernel
theorem dX4_setGoal_38 : decode cX4_setGoal 38 = .ok (.iastore, 1) := by decide +kernel
theorem dX4_setGoal_39 : decode cX4_setGoal 39 = .ok (.iload_n 2, 1) := by decide +kernel
theorem dX4_setGoal_40 : decode cX4_setGoal 40 = .ok (.ireturn, 1) := by decide +kernel
theorem dX4_jar_0 : decode cX4_jar 0 = .ok (.aload_n 0, 1) := by decide +kernel
theorem dX4_jar_1 : decode cX4_jar 1 = .ok (.iconst 0, 1) := by decide +kernel
theorem dX4_jar_2 : decode cX4_jar 2 = .ok (.putfield 22, 3) := by decide +kernel
theorem dX4_jar_5 : decode cX4_jar 5 = .ok (.iload_n 1, 1) := by decide +kernel
theorem dX4_jar_6 : decode cX4_jar 6 = .ok (.invokestatic 101, 3) := by decide +kernel
theorem dX4_jar_9 : decode cX4_jar 9 = .ok (.ifCond .eq 12, 3) := by decide +kernel
theorem dX4_jar_12 : decode cX4_jar 12 = .ok (.iload_n 2, 1) := by decide +kernel
theorem dX4_jar_13 : decode cX4_jar 13 = .ok (.iconst 0, 1) := by decide +kernel
theorem dX4_jar_14 : decode cX4_jar 14 = .ok (.iconst 4, 1) := by decide +kernel
theorem dX4_jar_15 : decode cX4_jar 15 = .ok (.invokestatic 26, 3) := by decide +kernel
theorem dX4_jar_18 : decode cX4_jar 18 = .ok (.ifCond .ne 9, 3) := by decide +kernel
theorem dX4_jar_21 : decode cX4_jar 21 = .ok (.aload_n 0, 1) := by decide +kernel
theorem dX4_jar_22 : decode cX4_jar 22 = .ok (.iconst 1, 1) := by decide +kernel
theorem dX4_jar_23 : decode cX4_jar 23 = .ok (.invokevirtual 104, 3) := by decide +kernel
theorem dX4_jar_26 : decode cX4_jar 26 = .ok (.ireturn, 1) := by decide +kernel
theorem dX4_jar_27 : decode cX4_jar 27 = .ok (.aload_n 0, 1) := by decide +kernel
theorem dX4_jar_28 : decode cX4_jar 28 = .ok (.iload_n 1, 1) := by decide +kernel
theorem dX4_jar_29 : decode cX4_jar 29 = .ok (.invokevirtual 61, 3) := by decide +kernel
theorem dX4_jar_32 : decode cX4_jar 32 = .ok (.ifCond .ne 5, 3) := by decide +kernel
theorem dX4_jar_35 : decode cX4_jar 35 = .ok (.iconst (-1), 1) := by decide +kernel
theorem dX4_jar_36 : decode cX4_jar 36 = .ok (.ireturn, 1) := by decide +kernel
theorem dX4_jar_37 : decode cX4_jar 37 = .ok (.iload_n 2, 1) := by decide +kernel
theorem dX4_jar_38 : decode cX4_jar 38 = .ok (.ifCond .ne 12, 3) := by decide +kernel
theorem dX4_jar_41 : decode cX4_jar 41 = .ok (.aload_n 0, 1) := by decide +kernel
theorem dX4_jar_42 : decode cX4_jar 42 = .ok (.iload_n 1, 1) := by decide +kernel
theorem dX4_jar_43 : decode cX4_jar 43 = .ok (.iconst 0, 1) := by decide +kernel
theorem dX4_jar_44 : decode cX4_jar 44 = .ok (.invokevirtual 30, 3) := by decide +kernel
theorem dX4_jar_47 : decode cX4_jar 47 = .ok (.goto 24, 3) := by decide +kernel
theorem dX4_jar_50 : decode cX4_jar 50 = .ok (.iload_n 2, 1) := by decide +kernel
theorem dX4_jar_51 : decode cX4_jar 51 = .ok (.iconst 1, 1) := by decide +kernel
theorem dX4_jar_52 : decode cX4_jar 52 = .ok (.if_icmp .ne 11, 3) := by decide +kernel
theorem dX4_jar_55 : decode cX4_jar 55 = .ok (.aload_n 0, 1) := by decide +kernel
theorem dX4_jar_56 : decode cX4_jar 56 = .ok (.iload_n 1, 1) := by decide +kernel
theorem dX4_jar_57 : decode cX4_jar 57 = .ok (.invokevirtual 120, 3) := by decide +kernel
theorem dX4_jar_60 : decode cX4_jar 60 = .ok (.goto 11, 3) := by decide +kernel
theorem dX4_jar_63 : decode cX4_jar 63 = .ok (.aload_n 0, 1) := by decide +kernel
theorem dX4_jar_64 : decode cX4_jar 64 = .ok (.iload_n 1, 1) := by decide +kernel
theorem dX4_jar_65 : decode cX4_jar 65 = .ok (.iload_n 2, 1) := by decide +kernel
theorem dX4_jar_66 : decode cX4_jar 66 = .ok (.iconst 1, 1) := by decide +kernel
theorem dX4_jar_67 : decode cX4_jar 67 = .ok (.isub, 1) := by decide +kernel
theorem dX4_jar_68 : decode cX4_jar 68 = .ok (.invokevirtual 30, 3) := by decide +kernel
theorem dX4_jar_71 : decode cX4_jar 71 = .ok (.ireturn, 1) := by decide +kernel
theorem dX4_shelf_0 : decode cX4_shelf 0 = .ok (.aload_n 0, 1) := by decide +kernel
theorem dX4_shelf_1 : decode cX4_shelf 1 = .ok (.iconst 0, 1) := by decide +kernel
theorem dX4_shelf_2 : decode cX4_shelf 2 = .ok (.putfield 22, 3) := by decide +kernel
theorem dX4_shelf_5 : decode cX4_shelf 5 = .ok (.iload_n 1, 1) := by decide +kernel
theorem dX4_shelf_6 : decode cX4_shelf 6 = .ok (.iconst 0, 1) := by decide +kernel
theorem dX4_shelf_7 : decode cX4_shelf 7 = .ok (.iconst 1, 1) := by decide +kernel
theorem dX4_shelf_8 : decode cX4_shelf 8 = .ok (.invokestatic 26, 3) := by decide +kernel
theorem dX4_shelf_11 : decode cX4_shelf 11 = .ok (.ifCond .eq 27, 3) := by decide +kernel
theorem dX4_shelf_14 : decode cX4_shelf 14 = .ok (.iload_n 2, 1) := by decide +kernel
theorem dX4_shelf_15 : decode cX4_shelf 15 = .ok (.iconst 0, 1) := by decide +kernel
theorem dX4_shelf_16 : decode cX4_shelf 16 = .ok (.aload_n 0, 1) := by decide +kernel
theorem dX4_shelf_17 : decode cX4_shelf 17 = .ok (.iload_n 1, 1) := by decide +kernel
theorem dX4_shelf_18 : decode cX4_shelf 18 = .ok (.invokevirtual 34, 3) := by decide +kernel
theorem dX4_shelf_21 : decode cX4_shelf 21 = .ok (.iconst 1, 1) := by decide +kernel
theorem dX4_shelf_22 : decode cX4_shelf 22 = .ok (.isub, 1) := by decide +kernel
theorem dX4_shelf_23 : decode cX4_shelf 23 = .ok (.invokestatic 26, 3) := by decide +kernel
theorem dX4_shelf_26 : decode cX4_shelf 26 = .ok (.ifCond .eq 12, 3) := by decide +kernel
theorem dX4_shelf_29 : decode cX4_shelf 29 = .ok (.aload_n 0, 1) := by decide +kernel
theorem dX4_shelf_30 : decode cX4_shelf 30 = .ok (.iload_n 1, 1) := by decide +kernel
theorem dX4_shelf_31 : decode cX4_shelf 31 = .ok (.iload_n 2, 1) := by decide +kernel
theorem dX4_shelf_32 : decode cX4_shelf 32 = .ok (.invokevirtual 58, 3) := by decide +kernel
theorem dX4_shelf_35 : decode cX4_shelf 35 = .ok (.goto 8, 3) := by decide +kernel
theorem dX4_shelf_38 : decode cX4_shelf 38 = .ok (.aload_n 0, 1) := by decide +kernel
theorem dX4_shelf_39 : decode cX4_shelf 39 = .ok (.iconst 1, 1) := by decide +kernel
theorem dX4_shelf_40 : decode cX4_shelf 40 = .ok (.invokevirtual 104, 3) := by decide +kernel
theorem dX4_shelf_43 : decode cX4_shelf 43 = .ok (.ireturn, 1) := by decide +kernel
theorem dX4_ghost_0 : decode cX4_ghost 0 = .ok (.aload_n 0, 1) := by decide +kernel
theorem dX4_ghost_1 : decode cX4_ghost 1 = .ok (.iconst 0, 1) := by decide +kernel
theorem dX4_ghost_2 : decode cX4_ghost 2 = .ok (.putfield 22, 3) := by decide +kernel
theorem dX4_ghost_5 : decode cX4_ghost 5 = .ok (.iload_n 1, 1) := by decide +kernel
theorem dX4_ghost_6 : decode cX4_ghost 6 = .ok (.iconst 0, 1) := by decide +kernel
theorem dX4_ghost_7 : decode cX4_ghost 7 = .ok (.iconst 1, 1) := by decide +kernel
theorem dX4_ghost_8 : decode cX4_ghost 8 = .ok (.invokestatic 26, 3) := by decide +kernel
theorem dX4_ghost_11 : decode cX4_ghost 11 = .ok (.ifCond .eq 27, 3) := by decide +kernel
theorem dX4_ghost_14 : decode cX4_ghost 14 = .ok (.iload_n 2, 1) := by decide +kernel
theorem dX4_ghost_15 : decode cX4_ghost 15 = .ok (.iconst 0, 1) := by decide +kernel
theorem dX4_ghost_16 : decode cX4_ghost 16 = .ok (.aload_n 0, 1) := by decide +kernel
theorem dX4_ghost_17 : decode cX4_ghost 17 = .ok (.iload_n 1, 1) := by decide +kernel
theorem dX4_ghost_18 : decode cX4_ghost 18 = .ok (.invokevirtual 44, 3) := by decide +kernel
theorem dX4_ghost_21 : decode cX4_ghost 21 = .ok (.iconst 1, 1) := by decide +kernel
theorem dX4_ghost_22 : decode cX4_ghost 22 = .ok (.isub, 1) := by decide +kernel
theorem dX4_ghost_23 : decode cX4_ghost 23 = .ok (.invokestatic 26, 3) := by decide +kernel
theorem dX4_ghost_26 : decode cX4_ghost 26 = .ok (.ifCond .eq 12, 3) := by decide +kernel
theorem dX4_ghost_29 : decode cX4_ghost 29 = .ok (.aload_n 0, 1) := by decide +kernel
theorem dX4_ghost_30 : decode cX4_ghost 30 = .ok (.iload_n 1, 1) := by decide +kernel
theorem dX4_ghost_31 : decode cX4_ghost 31 = .ok (.iload_n 2, 1) := by decide +kernel
theorem dX4_ghost_32 : decode cX4_ghost 32 = .ok (.invokevirtual 55, 3) := by decide +kernel
theorem dX4_ghost_35 : decode cX4_ghost 35 = .ok (.goto 8, 3) := by decide +kernel
theorem dX4_ghost_38 : decode cX4_ghost 38 = .ok (.aload_n 0, 1) := by decide +kernel
theorem dX4_ghost_39 : decode cX4_ghost 39 = .ok (.iconst 1, 1) := by decide +kernel
theorem dX4_ghost_40 : decode cX4_ghost 40 = .ok (.invokevirtual 104, 3) := by decide +kernel
theorem dX4_ghost_43 : decode cX4_ghost 43 = .ok (.ireturn, 1) := by decide +kernel
theorem dX4_counted_0 : decode cX4_counted 0 = .ok (.iload_n 1, 1) := by decide +kernel
theorem dX4_counted_1 : decode cX4_counted 1 = .ok (.tableswitch 102 0 10 #[59, 66, 72, 78, 84, 90, 102, 102, 102, 102, 97], 59) := by decide +kernel
theorem dX4_counted_60 : decode cX4_counted 60 = .ok (.aload_n 0, 1) := by decide +kernel
theorem dX4_counted_61 : decode cX4_counted 61 = .ok (.getfield 19, 3) := by decide +kernel
theorem dX4_counted_64 : decode cX4_counted 64 = .ok (.iconst 0, 1) := by decide +kernel
theorem dX4_counted_65 : decode cX4_counted 65 = .ok (.iaload, 1) := by decide +kernel
theorem dX4_counted_66 : decode cX4_counted 66 = .ok (.ireturn, 1) := by decide +kernel
theorem dX4_counted_67 : decode cX4_counted 67 = .ok (.aload_n 0, 1) := by decide +kernel
theorem dX4_counted_68 : decode cX4_counted 68 = .ok (.iconst 0, 1) := by decide +kernel
theorem dX4_counted_69 : decode cX4_counted 69 = .ok (.invokevirtual 34, 3) := by decide +kernel
theorem dX4_counted_72 : decode cX4_counted 72 = .ok (.ireturn, 1) := by decide +kernel
theorem dX4_counted_73 : decode cX4_counted 73 = .ok (.aload_n 0, 1) := by decide +kernel
theorem dX4_counted_74 : decode cX4_counted 74 = .ok (.iconst 1, 1) := by decide +kernel
theorem dX4_counted_75 : decode cX4_counted 75 = .ok (.invokevirtual 34, 3) := by decide +kernel
theorem dX4_counted_78 : decode cX4_counted 78 = .ok (.ireturn, 1) := by decide +kernel
theorem dX4_counted_79 : decode cX4_counted 79 = .ok (.aload_n 0, 1) := by decide +kernel
theorem dX4_counted_80 : decode cX4_counted 80 = .ok (.iconst 0, 1) := by decide +kernel
theorem dX4_counted_81 : decode cX4_counted 81 = .ok (.invokevirtual 44, 3) := by decide +kernel
theorem dX4_counted_84 : decode cX4_counted 84 = .ok (.ireturn, 1) := by decide +kernel
theorem dX4_counted_85 : decode cX4_counted 85 = .ok (.aload_n 0, 1) := by decide +kernel
theorem dX4_counted_86 : decode cX4_counted 86 = .ok (.iconst 1, 1) := by decide +kernel
theorem dX4_counted_87 : decode cX4_counted 87 = .ok (.invokevirtual 44, 3) := by decide +kernel
theorem dX4_counted_90 : decode cX4_counted 90 = .ok (.ireturn, 1) := by decide +kernel
theorem dX4_counted_91 : decode cX4_counted 91 = .ok (.aload_n 0, 1) := by decide +kernel
theorem dX4_counted_92 : decode cX4_counted 92 = .ok (.getfield 19, 3) := by decide +kernel
theorem dX4_counted_95 : decode cX4_counted 95 = .ok (.iconst 1, 1) := by decide +kernel
theorem dX4_counted_96 : decode cX4_counted 96 = .ok (.iaload, 1) := by decide +kernel
theorem dX4_counted_97 : decode cX4_counted 97 = .ok (.ireturn, 1) := by decide +kernel
theorem dX4_counted_98 : decode cX4_counted 98 = .ok (.aload_n 0, 1) := by decide +kernel
theorem dX4_counted_99 : decode cX4_counted 99 = .ok (.invokevirtual 86, 3) := by decide +kernel
theorem dX4_counted_102 : decode cX4_counted 102 = .ok (.ireturn, 1) := by decide +kernel
theorem dX4_counted_103 : decode cX4_counted 103 = .ok (.aload_n 0, 1) := by decide +kernel
theorem dX4_counted_104 : decode cX4_counted 104 = .ok (.getfield 19, 3) := by decide +kernel
theorem dX4_counted_107 : decode cX4_counted 107 = .ok (.iconst 2, 1) := by decide +kernel
theorem dX4_counted_108 : decode cX4_counted 108 = .ok (.iload_n 1, 1) := by decide +kernel
theorem dX4_counted_109 : decode cX4_counted 109 = .ok (.iadd, 1) := by decide +kernel
theorem dX4_counted_110 : decode cX4_counted 110 = .ok (.bipush 6, 2) := by decide +kernel
theorem dX4_counted_112 : decode cX4_counted 112 = .ok (.isub, 1) := by decide +kernel
theorem dX4_counted_113 : decode cX4_counted 113 = .ok (.iaload, 1) := by decide +kernel
theorem dX4_counted_114 : decode cX4_counted 114 = .ok (.ireturn, 1) := by decide +kernel
theorem dX4_count_0 : decode cX4_count 0 = .ok (.aload_n 0, 1) := by decide +kernel
theorem dX4_count_1 : decode cX4_count 1 = .ok (.iconst 0, 1) := by decide +kernel
theorem dX4_count_2 : decode cX4_count 2 = .ok (.putfield 22, 3) := by decide +kernel
theorem dX4_count_5 : decode cX4_count 5 = .ok (.iload_n 1, 1) := by decide +kernel
theorem dX4_count_6 : decode cX4_count 6 = .ok (.iconst 0, 1) := by decide +kernel
theorem dX4_count_7 : decode cX4_count 7 = .ok (.bipush 10, 2) := by decide +kernel
theorem dX4_count_9 : decode cX4_count 9 = .ok (.invokestatic 26, 3) := by decide +kernel
theorem dX4_count_12 : decode cX4_count 12 = .ok (.ifCond .eq 11, 3) := by decide +kernel
theorem dX4_count_15 : decode cX4_count 15 = .ok (.aload_n 0, 1) := by decide +kernel
theorem dX4_count_16 : decode cX4_count 16 = .ok (.iload_n 1, 1) := by decide +kernel
theorem dX4_count_17 : decode cX4_count 17 = .ok (.invokevirtual 126, 3) := by decide +kernel
theorem dX4_count_20 : decode cX4_count 20 = .ok (.goto 8, 3) := by decide +kernel
theorem dX4_count_23 : decode cX4_count 23 = .ok (.aload_n 0, 1) := by decide +kernel
theorem dX4_count_24 : decode cX4_count 24 = .ok (.iconst 1, 1) := by decide +kernel
theorem dX4_count_25 : decode cX4_count 25 = .ok (.invokevirtual 104, 3) := by decide +kernel
theorem dX4_count_28 : decode cX4_count 28 = .ok (.ireturn, 1) := by decide +kernel
theorem dX4_kept_0 : decode cX4_kept 0 = .ok (.iconst 4, 1) := by decide +kernel
theorem dX4_kept_1 : decode cX4_kept 1 = .ok (.anewarray 129, 3) := by decide +kernel
theorem dX4_kept_4 : decode cX4_kept 4 = .ok (.dup, 1) := by decide +kernel
theorem dX4_kept_5 : decode cX4_kept 5 = .ok (.iconst 0, 1) := by decide +kernel
theorem dX4_kept_6 : decode cX4_kept 6 = .ok (.aload_n 0, 1) := by decide +kernel
theorem dX4_kept_7 : decode cX4_kept 7 = .ok (.getfield 9, 3) := by decide +kernel
theorem dX4_kept_10 : decode cX4_kept 10 = .ok (.invokevirtual 130, 3) := by decide +kernel
theorem dX4_kept_13 : decode cX4_kept 13 = .ok (.checkcast 129, 3) := by decide +kernel
theorem dX4_kept_16 : decode cX4_kept 16 = .ok (.aastore, 1) := by decide +kernel
theorem dX4_kept_17 : decode cX4_kept 17 = .ok (.dup, 1) := by decide +kernel
theorem dX4_kept_18 : decode cX4_kept 18 = .ok (.iconst 1, 1) := by decide +kernel
theorem dX4_kept_19 : decode cX4_kept 19 = .ok (.aload_n 0, 1) := by decide +kernel
theorem dX4_kept_20 : decode cX4_kept 20 = .ok (.getfield 13, 3) := by decide +kernel
theorem dX4_kept_23 : decode cX4_kept 23 = .ok (.invokevirtual 130, 3) := by decide +kernel
theorem dX4_kept_26 : decode cX4_kept 26 = .ok (.checkcast 129, 3) := by decide +kernel
theorem dX4_kept_29 : decode cX4_kept 29 = .ok (.aastore, 1) := by decide +kernel
theorem dX4_kept_30 : decode cX4_kept 30 = .ok (.dup, 1) := by decide +kernel
theorem dX4_kept_31 : decode cX4_kept 31 = .ok (.iconst 2, 1) := by decide +kernel
theorem dX4_kept_32 : decode cX4_kept 32 = .ok (.aload_n 0, 1) := by decide +kernel
theorem dX4_kept_33 : decode cX4_kept 33 = .ok (.getfield 16, 3) := by decide +kernel
theorem dX4_kept_36 : decode cX4_kept 36 = .ok (.invokevirtual 130, 3) := by decide +kernel
theorem dX4_kept_39 : decode cX4_kept 39 = .ok (.checkcast 129, 3) := by decide +kernel
theorem dX4_kept_42 : decode cX4_kept 42 = .ok (.aastore, 1) := by decide +kernel
theorem dX4_kept_43 : decode cX4_kept 43 = .ok (.dup, 1) := by decide +kernel
theorem dX4_kept_44 : decode cX4_kept 44 = .ok (.iconst 3, 1) := by decide +kernel
theorem dX4_kept_45 : decode cX4_kept 45 = .ok (.aload_n 0, 1) := by decide +kernel
theorem dX4_kept_46 : decode cX4_kept 46 = .ok (.getfield 19, 3) := by decide +kernel
theorem dX4_kept_49 : decode cX4_kept 49 = .ok (.invokevirtual 130, 3) := by decide +kernel
theorem dX4_kept_52 : decode cX4_kept 52 = .ok (.checkcast 129, 3) := by decide +kernel
theorem dX4_kept_55 : decode cX4_kept 55 = .ok (.aastore, 1) := by decide +kernel
theorem dX4_kept_56 : decode cX4_kept 56 = .ok (.areturn, 1) := by decide +kernel
theorem dX4_bringBack_0 : decode cX4_bringBack 0 = .ok (.aload_n 1, 1) := by decide +kernel
theorem dX4_bringBack_1 : decode cX4_bringBack 1 = .ok (.iconst 0, 1) := by decide +kernel
theorem dX4_bringBack_2 : decode cX4_bringBack 2 = .ok (.aaload, 1) := by decide +kernel
theorem dX4_bringBack_3 : decode cX4_bringBack 3 = .ok (.iconst 0, 1) := by decide +kernel
theorem dX4_bringBack_4 : decode cX4_bringBack 4 = .ok (.aload_n 0, 1) := by decide +kernel
theorem dX4_bringBack_5 : decode cX4_bringBack 5 = .ok (.getfield 9, 3) := by decide +kernel
theorem dX4_bringBack_8 : decode cX4_bringBack 8 = .ok (.iconst 0, 1) := by decide +kernel
theorem dX4_bringBack_9 : decode cX4_bringBack 9 = .ok (.aload_n 0, 1) := by decide +kernel
theorem dX4_bringBack_10 : decode cX4_bringBack 10 = .ok (.getfield 9, 3) := by decide +kernel
theorem dX4_bringBack_13 : decode cX4_bringBack 13 = .ok (.arraylength, 1) := by decide +kernel
theorem dX4_bringBack_14 : decode cX4_bringBack 14 = .ok (.invokestatic 38, 3) := by decide +kernel
theorem dX4_bringBack_17 : decode cX4_bringBack 17 = .ok (.aload_n 1, 1) := by decide +kernel
theorem dX4_bringBack_18 : decode cX4_bringBack 18 = .ok (.iconst 1, 1) := by decide +kernel
theorem dX4_bringBack_19 : decode cX4_bringBack 19 = .ok (.aaload, 1) := by decide +kernel
theorem dX4_bringBack_20 : decode cX4_bringBack 20 = .ok (.iconst 0, 1) := by decide +kernel
theorem dX4_bringBack_21 : decode cX4_bringBack 21 = .ok (.aload_n 0, 1) := by decide +kernel
theorem dX4_bringBack_22 : decode cX4_bringBack 22 = .ok (.getfield 13, 3) := by decide +kernel
theorem dX4_bringBack_25 : decode cX4_bringBack 25 = .ok (.iconst 0, 1) := by decide +kernel
theorem dX4_bringBack_26 : decode cX4_bringBack 26 = .ok (.aload_n 0, 1) := by decide +kernel
theorem dX4_bringBack_27 : decode cX4_bringBack 27 = .ok (.getfield 13, 3) := by decide +kernel
theorem dX4_bringBack_30 : decode cX4_bringBack 30 = .ok (.arraylength, 1) := by decide +kernel
theorem dX4_bringBack_31 : decode cX4_bringBack 31 = .ok (.invokestatic 38, 3) := by decide +kernel
theorem dX4_bringBack_34 : decode cX4_bringBack 34 = .ok (.aload_n 1, 1) := by decide +kernel
theorem dX4_bringBack_35 : decode cX4_bringBack 35 = .ok (.iconst 2, 1) := by decide +kernel
theorem dX4_bringBack_36 : decode cX4_bringBack 36 = .ok (.aaload, 1) := by decide +kernel
theorem dX4_bringBack_37 : decode cX4_bringBack 37 = .ok (.iconst 0, 1) := by decide +kernel
theorem dX4_bringBack_38 : decode cX4_bringBack 38 = .ok (.aload_n 0, 1) := by decide +kernel
theorem dX4_bringBack_39 : decode cX4_bringBack 39 = .ok (.getfield 16, 3) := by decide +kernel
theorem dX4_bringBack_42 : decode cX4_bringBack 42 = .ok (.iconst 0, 1) := by decide +kernel
theorem dX4_bringBack_43 : decode cX4_bringBack 43 = .ok (.aload_n 0, 1) := by decide +kernel
theorem dX4_bringBack_44 : decode cX4_bringBack 44 = .ok (.getfield 16, 3) := by decide +kernel
theorem dX4_bringBack_47 : decode cX4_bringBack 47 = .ok (.arraylength, 1) := by decide +kernel
theorem dX4_bringBack_48 : decode cX4_bringBack 48 = .ok (.invokestatic 38, 3) := by decide +kernel
theorem dX4_bringBack_51 : decode cX4_bringBack 51 = .ok (.aload_n 1, 1) := by decide +kernel
theorem dX4_bringBack_52 : decode cX4_bringBack 52 = .ok (.iconst 3, 1) := by decide +kernel
theorem dX4_bringBack_53 : decode cX4_bringBack 53 = .ok (.aaload, 1) := by decide +kernel
theorem dX4_bringBack_54 : decode cX4_bringBack 54 = .ok (.iconst 0, 1) := by decide +kernel
theorem dX4_bringBack_55 : decode cX4_bringBack 55 = .ok (.aload_n 0, 1) := by decide +kernel
theorem dX4_bringBack_56 : decode cX4_bringBack 56 = .ok (.getfield 19, 3) := by decide +kernel
theorem dX4_bringBack_59 : decode cX4_bringBack 59 = .ok (.iconst 0, 1) := by decide +kernel
theorem dX4_bringBack_60 : decode cX4_bringBack 60 = .ok (.aload_n 0, 1) := by decide +kernel
theorem dX4_bringBack_61 : decode cX4_bringBack 61 = .ok (.getfield 19, 3) := by decide +kernel
theorem dX4_bringBack_64 : decode cX4_bringBack 64 = .ok (.arraylength, 1) := by decide +kernel
theorem dX4_bringBack_65 : decode cX4_bringBack 65 = .ok (.invokestatic 38, 3) := by decide +kernel
theorem dX4_bringBack_68 : decode cX4_bringBack 68 = .ok (.return_, 1) := by decide +kernel
theorem dX4_next_0 : decode cX4_next 0 = .ok (.aload_n 0, 1) := by decide +kernel
theorem dX4_next_1 : decode cX4_next 1 = .ok (.iconst 0, 1) := by decide +kernel
theorem dX4_next_2 : decode cX4_next 2 = .ok (.putfield 22, 3) := by decide +kernel
theorem dX4_next_5 : decode cX4_next 5 = .ok (.aload_n 0, 1) := by decide +kernel
theorem dX4_next_6 : decode cX4_next 6 = .ok (.invokevirtual 86, 3) := by decide +kernel
theorem dX4_next_9 : decode cX4_next 9 = .ok (.aload_n 0, 1) := by decide +kernel
theorem dX4_next_10 : decode cX4_next 10 = .ok (.invokevirtual 82, 3) := by decide +kernel
theorem dX4_next_13 : decode cX4_next 13 = .ok (.if_icmp .ne 5, 3) := by decide +kernel
theorem dX4_next_16 : decode cX4_next 16 = .ok (.iconst (-1), 1) := by decide +kernel
theorem dX4_next_17 : decode cX4_next 17 = .ok (.ireturn, 1) := by decide +kernel
theorem dX4_next_18 : decode cX4_next 18 = .ok (.aload_n 0, 1) := by decide +kernel
theorem dX4_next_19 : decode cX4_next 19 = .ok (.invokevirtual 134, 3) := by decide +kernel
theorem dX4_next_22 : decode cX4_next 22 = .ok (.astore_n 1, 1) := by decide +kernel
theorem dX4_next_23 : decode cX4_next 23 = .ok (.aload_n 0, 1) := by decide +kernel
theorem dX4_next_24 : decode cX4_next 24 = .ok (.invokevirtual 98, 3) := by decide +kernel
theorem dX4_next_27 : decode cX4_next 27 = .ok (.istore_n 2, 1) := by decide +kernel
theorem dX4_next_28 : decode cX4_next 28 = .ok (.aload_n 0, 1) := by decide +kernel
theorem dX4_next_29 : decode cX4_next 29 = .ok (.aload_n 1, 1) := by decide +kernel
theorem dX4_next_30 : decode cX4_next 30 = .ok (.invokevirtual 138, 3) := by decide +kernel
theorem dX4_next_33 : decode cX4_next 33 = .ok (.iload_n 2, 1) := by decide +kernel
theorem dX4_next_34 : decode cX4_next 34 = .ok (.ireturn, 1) := by decide +kernel
theorem dX4_would_0 : decode cX4_would 0 = .ok (.aload_n 0, 1) := by decide +kernel
theorem dX4_would_1 : decode cX4_would 1 = .ok (.iconst 0, 1) := by decide +kernel
theorem dX4_would_2 : decode cX4_would 2 = .ok (.putfield 22, 3) := by decide +kernel
theorem dX4_would_5 : decode cX4_would 5 = .ok (.iload_n 1, 1) := by decide +kernel
theorem dX4_would_6 : decode cX4_would 6 = .ok (.invokestatic 101, 3) := by decide +kernel
theorem dX4_would_9 : decode cX4_would 9 = .ok (.ifCond .ne 9, 3) := by decide +kernel
theorem dX4_would_12 : decode cX4_would 12 = .ok (.aload_n 0, 1) := by decide +kernel
theorem dX4_would_13 : decode cX4_would 13 = .ok (.iconst 1, 1) := by decide +kernel
theorem dX4_would_14 : decode cX4_would 14 = .ok (.invokevirtual 104, 3) := by decide +kernel
theorem dX4_would_17 : decode cX4_would 17 = .ok (.ireturn, 1) := by decide +kernel
theorem dX4_would_18 : decode cX4_would 18 = .ok (.aload_n 0, 1) := by decide +kernel
theorem dX4_would_19 : decode cX4_would 19 = .ok (.iload_n 1, 1) := by decide +kernel
theorem dX4_would_20 : decode cX4_would 20 = .ok (.invokevirtual 107, 3) := by decide +kernel
theorem dX4_would_23 : decode cX4_would 23 = .ok (.ifCond .eq 11, 3) := by decide +kernel
theorem dX4_would_26 : decode cX4_would 26 = .ok (.aload_n 0, 1) := by decide +kernel
theorem dX4_would_27 : decode cX4_would 27 = .ok (.iload_n 1, 1) := by decide +kernel
theorem dX4_would_28 : decode cX4_would 28 = .ok (.invokevirtual 142, 3) := by decide +kernel
theorem dX4_would_31 : decode cX4_would 31 = .ok (.goto 5, 3) := by decide +kernel
theorem dX4_would_34 : decode cX4_would 34 = .ok (.bipush (-9), 2) := by decide +kernel
theorem dX4_would_36 : decode cX4_would 36 = .ok (.ireturn, 1) := by decide +kernel
theorem dX4_trial_0 : decode cX4_trial 0 = .ok (.aload_n 0, 1) := by decide +kernel
theorem dX4_trial_1 : decode cX4_trial 1 = .ok (.aload_n 0, 1) := by decide +kernel
theorem dX4_trial_2 : decode cX4_trial 2 = .ok (.iload_n 1, 1) := by decide +kernel
theorem dX4_trial_3 : decode cX4_trial 3 = .ok (.iload_n 2, 1) := by decide +kernel
theorem dX4_trial_4 : decode cX4_trial 4 = .ok (.iload_n 3, 1) := by decide +kernel
theorem dX4_trial_5 : decode cX4_trial 5 = .ok (.invokevirtual 113, 3) := by decide +kernel
theorem dX4_trial_8 : decode cX4_trial 8 = .ok (.putfield 22, 3) := by decide +kernel
theorem dX4_trial_11 : decode cX4_trial 11 = .ok (.aload_n 0, 1) := by decide +kernel
theorem dX4_trial_12 : decode cX4_trial 12 = .ok (.getfield 22, 3) := by decide +kernel
theorem dX4_trial_15 : decode cX4_trial 15 = .ok (.ifCond .eq 5, 3) := by decide +kernel
theorem dX4_trial_18 : decode cX4_trial 18 = .ok (.iconst 0, 1) := by decide +kernel
theorem dX4_trial_19 : decode cX4_trial 19 = .ok (.ireturn, 1) := by decide +kernel
theorem dX4_trial_20 : decode cX4_trial 20 = .ok (.aload_n 0, 1) := by decide +kernel
theorem dX4_trial_21 : decode cX4_trial 21 = .ok (.invokevirtual 134, 3) := by decide +kernel
theorem dX4_trial_24 : decode cX4_trial 24 = .ok (.astore 4, 2) := by decide +kernel
theorem dX4_trial_26 : decode cX4_trial 26 = .ok (.aload_n 0, 1) := by decide +kernel
theorem dX4_trial_27 : decode cX4_trial 27 = .ok (.iload_n 1, 1) := by decide +kernel
theorem dX4_trial_28 : decode cX4_trial 28 = .ok (.iload_n 2, 1) := by decide +kernel
theorem dX4_trial_29 : decode cX4_trial 29 = .ok (.iload_n 3, 1) := by decide +kernel
theorem dX4_trial_30 : decode cX4_trial 30 = .ok (.invokevirtual 117, 3) := by decide +kernel
theorem dX4_trial_33 : decode cX4_trial 33 = .ok (.istore 5, 2) := by decide +kernel
theorem dX4_trial_35 : decode cX4_trial 35 = .ok (.aload_n 0, 1) := by decide +kernel
theorem dX4_trial_36 : decode cX4_trial 36 = .ok (.aload 4, 2) := by decide +kernel
theorem dX4_trial_38 : decode cX4_trial 38 = .ok (.invokevirtual 138, 3) := by decide +kernel
theorem dX4_trial_41 : decode cX4_trial 41 = .ok (.iload 5, 2) := by decide +kernel
theorem dX4_trial_43 : decode cX4_trial 43 = .ok (.ireturn, 1) := by decide +kernel
theorem dX4_advise_0 : decode cX4_advise 0 = .ok (.aload_n 0, 1) := by decide +kernel
theorem dX4_advise_1 : decode cX4_advise 1 = .ok (.aload_n 0, 1) := by decide +kernel
theorem dX4_advise_2 : decode cX4_advise 2 = .ok (.iload_n 1, 1) := by decide +kernel
theorem dX4_advise_3 : decode cX4_advise 3 = .ok (.iload_n 2, 1) := by decide +kernel
theorem dX4_advise_4 : decode cX4_advise 4 = .ok (.iload_n 3, 1) := by decide +kernel
theorem dX4_advise_5 : decode cX4_advise 5 = .ok (.invokevirtual 113, 3) := by decide +kernel
theorem dX4_advise_8 : decode cX4_advise 8 = .ok (.putfield 22, 3) := by decide +kernel
theorem dX4_advise_11 : decode cX4_advise 11 = .ok (.aload_n 0, 1) := by decide +kernel
theorem dX4_advise_12 : decode cX4_advise 12 = .ok (.getfield 22, 3) := by decide +kernel
theorem dX4_advise_15 : decode cX4_advise 15 = .ok (.ifCond .eq 5, 3) := by decide +kernel
theorem dX4_advise_18 : decode cX4_advise 18 = .ok (.iconst 0, 1) := by decide +kernel
theorem dX4_advise_19 : decode cX4_advise 19 = .ok (.ireturn, 1) := by decide +kernel
theorem dX4_advise_20 : decode cX4_advise 20 = .ok (.aload_n 0, 1) := by decide +kernel
theorem dX4_advise_21 : decode cX4_advise 21 = .ok (.invokevirtual 134, 3) := by decide +kernel
theorem dX4_advise_24 : decode cX4_advise 24 = .ok (.astore 4, 2) := by decide +kernel
theorem dX4_advise_26 : decode cX4_advise 26 = .ok (.iconst (-1), 1) := by decide +kernel
theorem dX4_advise_27 : decode cX4_advise 27 = .ok (.istore 5, 2) := by decide +kernel
theorem dX4_advise_29 : decode cX4_advise 29 = .ok (.iconst (-1), 1) := by decide +kernel
theorem dX4_advise_30 : decode cX4_advise 30 = .ok (.istore 6, 2) := by decide +kernel
theorem dX4_advise_32 : decode cX4_advise 32 = .ok (.iconst 2, 1) := by decide +kernel
theorem dX4_advise_33 : decode cX4_advise 33 = .ok (.aload_n 0, 1) := by decide +kernel
theorem dX4_advise_34 : decode cX4_advise 34 = .ok (.invokevirtual 86, 3) := by decide +kernel
theorem dX4_advise_37 : decode cX4_advise 37 = .ok (.invokestatic 68, 3) := by decide +kernel
theorem dX4_advise_40 : decode cX4_advise 40 = .ok (.istore 7, 2) := by decide +kernel
theorem dX4_advise_42 : decode cX4_advise 42 = .ok (.iload 7, 2) := by decide +kernel
theorem dX4_advise_44 : decode cX4_advise 44 = .ok (.bipush 12, 2) := by decide +kernel
theorem dX4_advise_46 : decode cX4_advise 46 = .ok (.if_icmp .gt 48, 3) := by decide +kernel
theorem dX4_advise_49 : decode cX4_advise 49 = .ok (.aload_n 0, 1) := by decide +kernel
theorem dX4_advise_50 : decode cX4_advise 50 = .ok (.iload 7, 2) := by decide +kernel
theorem dX4_advise_52 : decode cX4_advise 52 = .ok (.invokevirtual 123, 3) := by decide +kernel
theorem dX4_advise_55 : decode cX4_advise 55 = .ok (.aload_n 0, 1) := by decide +kernel
theorem dX4_advise_56 : decode cX4_advise 56 = .ok (.iload_n 1, 1) := by decide +kernel
theorem dX4_advise_57 : decode cX4_advise 57 = .ok (.iload_n 2, 1) := by decide +kernel
theorem dX4_advise_58 : decode cX4_advise 58 = .ok (.iload_n 3, 1) := by decide +kernel
theorem dX4_advise_59 : decode cX4_advise 59 = .ok (.invokevirtual 117, 3) := by decide +kernel
theorem dX4_advise_62 : decode cX4_advise 62 = .ok (.istore 8, 2) := by decide +kernel
theorem dX4_advise_64 : decode cX4_advise 64 = .ok (.aload_n 0, 1) := by decide +kernel
theorem dX4_advise_65 : decode cX4_advise 65 = .ok (.aload 4, 2) := by decide +kernel
theorem dX4_advise_67 : decode cX4_advise 67 = .ok (.invokevirtual 138, 3) := by decide +kernel
theorem dX4_advise_70 : decode cX4_advise 70 = .ok (.iload 8, 2) := by decide +kernel
theorem dX4_advise_72 : decode cX4_advise 72 = .ok (.iload 6, 2) := by decide +kernel
theorem dX4_advise_74 : decode cX4_advise 74 = .ok (.if_icmp .gt 6, 3) := by decide +kernel
theorem dX4_advise_77 : decode cX4_advise 77 = .ok (.goto 11, 3) := by decide +kernel
theorem dX4_advise_80 : decode cX4_advise 80 = .ok (.iload 7, 2) := by decide +kernel
theorem dX4_advise_82 : decode cX4_advise 82 = .ok (.istore 5, 2) := by decide +kernel
theorem dX4_advise_84 : decode cX4_advise 84 = .ok (.iload 8, 2) := by decide +kernel
theorem dX4_advise_86 : decode cX4_advise 86 = .ok (.istore 6, 2) := by decide +kernel
theorem dX4_advise_88 : decode cX4_advise 88 = .ok (.iinc 7 1, 3) := by decide +kernel
theorem dX4_advise_91 : decode cX4_advise 91 = .ok (.goto (-49), 3) := by decide +kernel
theorem dX4_advise_94 : decode cX4_advise 94 = .ok (.iload 5, 2) := by decide +kernel
theorem dX4_advise_96 : decode cX4_advise 96 = .ok (.ireturn, 1) := by decide +kernel
theorem dX4_mean_0 : decode cX4_mean 0 = .ok (.aload_n 0, 1) := by decide +kernel
theorem dX4_mean_1 : decode cX4_mean 1 = .ok (.iconst 0, 1) := by decide +kernel
theorem dX4_mean_2 : decode cX4_mean 2 = .ok (.putfield 22, 3) := by decide +kernel
theorem dX4_mean_5 : decode cX4_mean 5 = .ok (.iconst 0, 1) := by decide +kernel
theorem dX4_mean_6 : decode cX4_mean 6 = .ok (.istore_n 1, 1) := by decide +kernel
theorem dX4_mean_7 : decode cX4_mean 7 = .ok (.iconst 0, 1) := by decide +kernel
theorem dX4_mean_8 : decode cX4_mean 8 = .ok (.istore_n 2, 1) := by decide +kernel
theorem dX4_mean_9 : decode cX4_mean 9 = .ok (.iload_n 2, 1) := by decide +kernel
theorem dX4_mean_10 : decode cX4_mean 10 = .ok (.bipush 40, 2) := by decide +kernel
theorem dX4_mean_12 : decode cX4_mean 12 = .ok (.if_icmp .ge 30, 3) := by decide +kernel
theorem dX4_mean_15 : decode cX4_mean 15 = .ok (.iload_n 1, 1) := by decide +kernel
theorem dX4_mean_16 : decode cX4_mean 16 = .ok (.aload_n 0, 1) := by decide +kernel
theorem dX4_mean_17 : decode cX4_mean 17 = .ok (.iload_n 2, 1) := by decide +kernel
theorem dX4_mean_18 : decode cX4_mean 18 = .ok (.invokevirtual 61, 3) := by decide +kernel
theorem dX4_mean_21 : decode cX4_mean 21 = .ok (.ifCond .eq 12, 3) := by decide +kernel
theorem dX4_mean_24 : decode cX4_mean 24 = .ok (.aload_n 0, 1) := by decide +kernel
theorem dX4_mean_25 : decode cX4_mean 25 = .ok (.iload_n 2, 1) := by decide +kernel
theorem dX4_mean_26 : decode cX4_mean 26 = .ok (.iconst 3, 1) := by decide +kernel
theorem dX4_mean_27 : decode cX4_mean 27 = .ok (.invokevirtual 30, 3) := by decide +kernel
theorem dX4_mean_30 : decode cX4_mean 30 = .ok (.goto 4, 3) := by decide +kernel
theorem dX4_mean_33 : decode cX4_mean 33 = .ok (.iconst 0, 1) := by decide +kernel
theorem dX4_mean_34 : decode cX4_mean 34 = .ok (.iadd, 1) := by decide +kernel
theorem dX4_mean_35 : decode cX4_mean 35 = .ok (.istore_n 1, 1) := by decide +kernel
theorem dX4_mean_36 : decode cX4_mean 36 = .ok (.iinc 2 1, 3) := by decide +kernel
theorem dX4_mean_39 : decode cX4_mean 39 = .ok (.goto (-30), 3) := by decide +kernel
theorem dX4_mean_42 : decode cX4_mean 42 = .ok (.aload_n 0, 1) := by decide +kernel
theorem dX4_mean_43 : decode cX4_mean 43 = .ok (.invokevirtual 82, 3) := by decide +kernel
theorem dX4_mean_46 : decode cX4_mean 46 = .ok (.ifCond .ne 7, 3) := by decide +kernel
theorem dX4_mean_49 : decode cX4_mean 49 = .ok (.dconst 0, 1) := by decide +kernel
theorem dX4_mean_50 : decode cX4_mean 50 = .ok (.goto 11, 3) := by decide +kernel
theorem dX4_mean_53 : decode cX4_mean 53 = .ok (.iload_n 1, 1) := by decide +kernel
theorem dX4_mean_54 : decode cX4_mean 54 = .ok (.i2d, 1) := by decide +kernel
theorem dX4_mean_55 : decode cX4_mean 55 = .ok (.aload_n 0, 1) := by decide +kernel
theorem dX4_mean_56 : decode cX4_mean 56 = .ok (.invokevirtual 82, 3) := by decide +kernel
theorem dX4_mean_59 : decode cX4_mean 59 = .ok (.i2d, 1) := by decide +kernel
theorem dX4_mean_60 : decode cX4_mean 60 = .ok (.ddiv, 1) := by decide +kernel
theorem dX4_mean_61 : decode cX4_mean 61 = .ok (.dreturn, 1) := by decide +kernel
theorem dX4_digest_0 : decode cX4_digest 0 = .ok (.aload_n 0, 1) := by decide +kernel
theorem dX4_digest_1 : decode cX4_digest 1 = .ok (.iconst 0, 1) := by decide +kernel
theorem dX4_digest_2 : decode cX4_digest 2 = .ok (.putfield 22, 3) := by decide +kernel
theorem dX4_digest_5 : decode cX4_digest 5 = .ok (.ldc2_w 145, 3) := by decide +kernel
theorem dX4_digest_8 : decode cX4_digest 8 = .ok (.lstore_n 1, 1) := by decide +kernel
theorem dX4_digest_9 : decode cX4_digest 9 = .ok (.iconst 0, 1) := by decide +kernel
theorem dX4_digest_10 : decode cX4_digest 10 = .ok (.istore_n 3, 1) := by decide +kernel
theorem dX4_digest_11 : decode cX4_digest 11 = .ok (.iload_n 3, 1) := by decide +kernel
theorem dX4_digest_12 : decode cX4_digest 12 = .ok (.bipush 11, 2) := by decide +kernel
theorem dX4_digest_14 : decode cX4_digest 14 = .ok (.if_icmp .ge 22, 3) := by decide +kernel
theorem dX4_digest_17 : decode cX4_digest 17 = .ok (.lload_n 1, 1) := by decide +kernel
theorem dX4_digest_18 : decode cX4_digest 18 = .ok (.ldc2_w 147, 3) := by decide +kernel
theorem dX4_digest_21 : decode cX4_digest 21 = .ok (.lmul, 1) := by decide +kernel
theorem dX4_digest_22 : decode cX4_digest 22 = .ok (.aload_n 0, 1) := by decide +kernel
theorem dX4_digest_23 : decode cX4_digest 23 = .ok (.iload_n 3, 1) := by decide +kernel
theorem dX4_digest_24 : decode cX4_digest 24 = .ok (.invokevirtual 126, 3) := by decide +kernel
theorem dX4_digest_27 : decode cX4_digest 27 = .ok (.i2l, 1) := by decide +kernel
theorem dX4_digest_28 : decode cX4_digest 28 = .ok (.ladd, 1) := by decide +kernel
theorem dX4_digest_29 : decode cX4_digest 29 = .ok (.lstore_n 1, 1) := by decide +kernel
theorem dX4_digest_30 : decode cX4_digest 30 = .ok (.iinc 3 1, 3) := by decide +kernel
theorem dX4_digest_33 : decode cX4_digest 33 = .ok (.goto (-22), 3) := by decide +kernel
theorem dX4_digest_36 : decode cX4_digest 36 = .ok (.iconst 0, 1) := by decide +kernel
theorem dX4_digest_37 : decode cX4_digest 37 = .ok (.istore_n 3, 1) := by decide +kernel
theorem dX4_digest_38 : decode cX4_digest 38 = .ok (.iload_n 3, 1) := by decide +kernel
theorem dX4_digest_39 : decode cX4_digest 39 = .ok (.iconst 2, 1) := by decide +kernel
theorem dX4_digest_40 : decode cX4_digest 40 = .ok (.if_icmp .ge 112, 3) := by decide +kernel
theorem dX4_digest_43 : decode cX4_digest 43 = .ok (.iconst 0, 1) := by decide +kernel
theorem dX4_digest_44 : decode cX4_digest 44 = .ok (.istore 4, 2) := by decide +kernel
theorem dX4_digest_46 : decode cX4_digest 46 = .ok (.iload 4, 2) := by decide +kernel
theorem dX4_digest_48 : decode cX4_digest 48 = .ok (.aload_n 0, 1) := by decide +kernel
theorem dX4_digest_49 : decode cX4_digest 49 = .ok (.iload_n 3, 1) := by decide +kernel
theorem dX4_digest_50 : decode cX4_digest 50 = .ok (.invokevirtual 34, 3) := by decide +kernel
theorem dX4_digest_53 : decode cX4_digest 53 = .ok (.if_icmp .ge 59, 3) := by decide +kernel
theorem dX4_digest_56 : decode cX4_digest 56 = .ok (.aload_n 0, 1) := by decide +kernel
theorem dX4_digest_57 : decode cX4_digest 57 = .ok (.iload_n 3, 1) := by decide +kernel
theorem dX4_digest_58 : decode cX4_digest 58 = .ok (.iload 4, 2) := by decide +kernel
theorem dX4_digest_60 : decode cX4_digest 60 = .ok (.invokevirtual 58, 3) := by decide +kernel
theorem dX4_digest_63 : decode cX4_digest 63 = .ok (.istore 5, 2) := by decide +kernel
theorem dX4_digest_65 : decode cX4_digest 65 = .ok (.lload_n 1, 1) := by decide +kernel
theorem dX4_digest_66 : decode cX4_digest 66 = .ok (.ldc2_w 147, 3) := by decide +kernel
theorem dX4_digest_69 : decode cX4_digest 69 = .ok (.lmul, 1) := by decide +kernel
theorem dX4_digest_70 : decode cX4_digest 70 = .ok (.iload 5, 2) := by decide +kernel
theorem dX4_digest_72 : decode cX4_digest 72 = .ok (.i2l, 1) := by decide +kernel
theorem dX4_digest_73 : decode cX4_digest 73 = .ok (.ladd, 1) := by decide +kernel
theorem dX4_digest_74 : decode cX4_digest 74 = .ok (.lstore_n 1, 1) := by decide +kernel
theorem dX4_digest_75 : decode cX4_digest 75 = .ok (.iconst 1, 1) := by decide +kernel
theorem dX4_digest_76 : decode cX4_digest 76 = .ok (.istore 6, 2) := by decide +kernel
theorem dX4_digest_78 : decode cX4_digest 78 = .ok (.iload 6, 2) := by decide +kernel
theorem dX4_digest_80 : decode cX4_digest 80 = .ok (.iconst 4, 1) := by decide +kernel
theorem dX4_digest_81 : decode cX4_digest 81 = .ok (.if_icmp .ge 25, 3) := by decide +kernel
theorem dX4_digest_84 : decode cX4_digest 84 = .ok (.lload_n 1, 1) := by decide +kernel
theorem dX4_digest_85 : decode cX4_digest 85 = .ok (.ldc2_w 147, 3) := by decide +kernel
theorem dX4_digest_88 : decode cX4_digest 88 = .ok (.lmul, 1) := by decide +kernel
theorem dX4_digest_89 : decode cX4_digest 89 = .ok (.aload_n 0, 1) := by decide +kernel
theorem dX4_digest_90 : decode cX4_digest 90 = .ok (.iload 5, 2) := by decide +kernel
theorem dX4_digest_92 : decode cX4_digest 92 = .ok (.iload 6, 2) := by decide +kernel
theorem dX4_digest_94 : decode cX4_digest 94 = .ok (.invokevirtual 30, 3) := by decide +kernel
theorem dX4_digest_97 : decode cX4_digest 97 = .ok (.i2l, 1) := by decide +kernel
theorem dX4_digest_98 : decode cX4_digest 98 = .ok (.ladd, 1) := by decide +kernel
theorem dX4_digest_99 : decode cX4_digest 99 = .ok (.lstore_n 1, 1) := by decide +kernel
theorem dX4_digest_100 : decode cX4_digest 100 = .ok (.iinc 6 1, 3) := by decide +kernel
theorem dX4_digest_103 : decode cX4_digest 103 = .ok (.goto (-25), 3) := by decide +kernel
theorem dX4_digest_106 : decode cX4_digest 106 = .ok (.iinc 4 1, 3) := by decide +kernel
theorem dX4_digest_109 : decode cX4_digest 109 = .ok (.goto (-63), 3) := by decide +kernel
theorem dX4_digest_112 : decode cX4_digest 112 = .ok (.iconst 0, 1) := by decide +kernel
theorem dX4_digest_113 : decode cX4_digest 113 = .ok (.istore 4, 2) := by decide +kernel
theorem dX4_digest_115 : decode cX4_digest 115 = .ok (.iload 4, 2) := by decide +kernel
theorem dX4_digest_117 : decode cX4_digest 117 = .ok (.aload_n 0, 1) := by decide +kernel
theorem dX4_digest_118 : decode cX4_digest 118 = .ok (.iload_n 3, 1) := by decide +kernel
theorem dX4_digest_119 : decode cX4_digest 119 = .ok (.invokevirtual 44, 3) := by decide +kernel
theorem dX4_digest_122 : decode cX4_digest 122 = .ok (.if_icmp .ge 24, 3) := by decide +kernel
theorem dX4_digest_125 : decode cX4_digest 125 = .ok (.lload_n 1, 1) := by decide +kernel
theorem dX4_digest_126 : decode cX4_digest 126 = .ok (.ldc2_w 147, 3) := by decide +kernel
theorem dX4_digest_129 : decode cX4_digest 129 = .ok (.lmul, 1) := by decide +kernel
theorem dX4_digest_130 : decode cX4_digest 130 = .ok (.aload_n 0, 1) := by decide +kernel
theorem dX4_digest_131 : decode cX4_digest 131 = .ok (.iload_n 3, 1) := by decide +kernel
theorem dX4_digest_132 : decode cX4_digest 132 = .ok (.iload 4, 2) := by decide +kernel
theorem dX4_digest_134 : decode cX4_digest 134 = .ok (.invokevirtual 55, 3) := by decide +kernel
theorem dX4_digest_137 : decode cX4_digest 137 = .ok (.i2l, 1) := by decide +kernel
theorem dX4_digest_138 : decode cX4_digest 138 = .ok (.ladd, 1) := by decide +kernel
theorem dX4_digest_139 : decode cX4_digest 139 = .ok (.lstore_n 1, 1) := by decide +kernel
theorem dX4_digest_140 : decode cX4_digest 140 = .ok (.iinc 4 1, 3) := by decide +kernel
theorem dX4_digest_143 : decode cX4_digest 143 = .ok (.goto (-28), 3) := by decide +kernel
theorem dX4_digest_146 : decode cX4_digest 146 = .ok (.iinc 3 1, 3) := by decide +kernel
theorem dX4_digest_149 : decode cX4_digest 149 = .ok (.goto (-111), 3) := by decide +kernel
theorem dX4_digest_152 : decode cX4_digest 152 = .ok (.lload_n 1, 1) := by decide +kernel
theorem dX4_digest_153 : decode cX4_digest 153 = .ok (.lreturn, 1) := by decide +kernel
