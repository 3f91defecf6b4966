theorem dX0_init_0 : decode cX0_init 0 = .ok (.aload_n 0, 1) := by decide +kernel
theorem dX0_init_1 : decode cX0_init 1 = .ok (.invokespecial 3, 3) := by decide +kernel
theorem dX0_init_4 : decode cX0_init 4 = .ok (.aload_n 0, 1) := by decide +kernel
theorem dX0_init_5 : decode cX0_init 5 = .ok (.bipush 40, 2) := by decide +kernel
theorem dX0_init_7 : decode cX0_init 7 = .ok (.newarray .int, 2) := by decide +kernel
theorem dX0_init_9 : decode cX0_init 9 = .ok (.putfield 9, 3) := by decide +kernel
theorem dX0_init_12 : decode cX0_init 12 = .ok (.aload_n 0, 1) := by decide +kernel
theorem dX0_init_13 : decode cX0_init 13 = .ok (.iconst 0, 1) := by decide +kernel
theorem dX0_init_14 : decode cX0_init 14 = .ok (.putfield 15, 3) := by decide +kernel
theorem dX0_init_17 : decode cX0_init 17 = .ok (.return_, 1) := by decide +kernel
theorem dX0_become_0 : decode cX0_become 0 = .ok (.iconst 0, 1) := by decide +kernel
theorem dX0_become_1 : decode cX0_become 1 = .ok (.istore_n 2, 1) := by decide +kernel
theorem dX0_become_2 : decode cX0_become 2 = .ok (.iload_n 2, 1) := by decide +kernel
theorem dX0_become_3 : decode cX0_become 3 = .ok (.aload_n 0, 1) := by decide +kernel
theorem dX0_become_4 : decode cX0_become 4 = .ok (.getfield 9, 3) := by decide +kernel
theorem dX0_become_7 : decode cX0_become 7 = .ok (.arraylength, 1) := by decide +kernel
theorem dX0_become_8 : decode cX0_become 8 = .ok (.if_icmp .ge 30, 3) := by decide +kernel
theorem dX0_become_11 : decode cX0_become 11 = .ok (.iload_n 2, 1) := by decide +kernel
theorem dX0_become_12 : decode cX0_become 12 = .ok (.aload_n 1, 1) := by decide +kernel
theorem dX0_become_13 : decode cX0_become 13 = .ok (.getfield 9, 3) := by decide +kernel
theorem dX0_become_16 : decode cX0_become 16 = .ok (.arraylength, 1) := by decide +kernel
theorem dX0_become_17 : decode cX0_become 17 = .ok (.if_icmp .ge 21, 3) := by decide +kernel
theorem dX0_become_20 : decode cX0_become 20 = .ok (.aload_n 0, 1) := by decide +kernel
theorem dX0_become_21 : decode cX0_become 21 = .ok (.getfield 9, 3) := by decide +kernel
theorem dX0_become_24 : decode cX0_become 24 = .ok (.iload_n 2, 1) := by decide +kernel
theorem dX0_become_25 : decode cX0_become 25 = .ok (.aload_n 1, 1) := by decide +kernel
theorem dX0_become_26 : decode cX0_become 26 = .ok (.getfield 9, 3) := by decide +kernel
theorem dX0_become_29 : decode cX0_become 29 = .ok (.iload_n 2, 1) := by decide +kernel
theorem dX0_become_30 : decode cX0_become 30 = .ok (.iaload, 1) := by decide +kernel
theorem dX0_become_31 : decode cX0_become 31 = .ok (.iastore, 1) := by decide +kernel
theorem dX0_become_32 : decode cX0_become 32 = .ok (.iinc 2 1, 3) := by decide +kernel
theorem dX0_become_35 : decode cX0_become 35 = .ok (.goto (-33), 3) := by decide +kernel
theorem dX0_become_38 : decode cX0_become 38 = .ok (.aload_n 0, 1) := by decide +kernel
theorem dX0_become_39 : decode cX0_become 39 = .ok (.aload_n 1, 1) := by decide +kernel
theorem dX0_become_40 : decode cX0_become 40 = .ok (.getfield 15, 3) := by decide +kernel
theorem dX0_become_43 : decode cX0_become 43 = .ok (.putfield 15, 3) := by decide +kernel
theorem dX0_become_46 : decode cX0_become 46 = .ok (.return_, 1) := by decide +kernel
theorem dX0_at_0 : decode cX0_at 0 = .ok (.iload_n 1, 1) := by decide +kernel
theorem dX0_at_1 : decode cX0_at 1 = .ok (.ifCond .lt 29, 3) := by decide +kernel
theorem dX0_at_4 : decode cX0_at 4 = .ok (.iload_n 1, 1) := by decide +kernel
theorem dX0_at_5 : decode cX0_at 5 = .ok (.aload_n 0, 1) := by decide +kernel
theorem dX0_at_6 : decode cX0_at 6 = .ok (.getfield 15, 3) := by decide +kernel
theorem dX0_at_9 : decode cX0_at 9 = .ok (.if_icmp .ge 21, 3) := by decide +kernel
theorem dX0_at_12 : decode cX0_at 12 = .ok (.iload_n 1, 1) := by decide +kernel
theorem dX0_at_13 : decode cX0_at 13 = .ok (.aload_n 0, 1) := by decide +kernel
theorem dX0_at_14 : decode cX0_at 14 = .ok (.getfield 9, 3) := by decide +kernel
theorem dX0_at_17 : decode cX0_at 17 = .ok (.arraylength, 1) := by decide +kernel
theorem dX0_at_18 : decode cX0_at 18 = .ok (.if_icmp .ge 12, 3) := by decide +kernel
theorem dX0_at_21 : decode cX0_at 21 = .ok (.aload_n 0, 1) := by decide +kernel
theorem dX0_at_22 : decode cX0_at 22 = .ok (.getfield 9, 3) := by decide +kernel
theorem dX0_at_25 : decode cX0_at 25 = .ok (.iload_n 1, 1) := by decide +kernel
theorem dX0_at_26 : decode cX0_at 26 = .ok (.iaload, 1) := by decide +kernel
theorem dX0_at_27 : decode cX0_at 27 = .ok (.goto 4, 3) := by decide +kernel
theorem dX0_at_30 : decode cX0_at 30 = .ok (.iconst (-1), 1) := by decide +kernel
theorem dX0_at_31 : decode cX0_at 31 = .ok (.ireturn, 1) := by decide +kernel
theorem dX0_placeOf_0 : decode cX0_placeOf 0 = .ok (.iconst 0, 1) := by decide +kernel
theorem dX0_placeOf_1 : decode cX0_placeOf 1 = .ok (.istore_n 2, 1) := by decide +kernel
theorem dX0_placeOf_2 : decode cX0_placeOf 2 = .ok (.iload_n 2, 1) := by decide +kernel
theorem dX0_placeOf_3 : decode cX0_placeOf 3 = .ok (.aload_n 0, 1) := by decide +kernel
theorem dX0_placeOf_4 : decode cX0_placeOf 4 = .ok (.getfield 15, 3) := by decide +kernel
theorem dX0_placeOf_7 : decode cX0_placeOf 7 = .ok (.if_icmp .ge 30, 3) := by decide +kernel
theorem dX0_placeOf_10 : decode cX0_placeOf 10 = .ok (.iload_n 2, 1) := by decide +kernel
theorem dX0_placeOf_11 : decode cX0_placeOf 11 = .ok (.aload_n 0, 1) := by decide +kernel
theorem dX0_placeOf_12 : decode cX0_placeOf 12 = .ok (.getfield 9, 3) := by decide +kernel
theorem dX0_placeOf_15 : decode cX0_placeOf 15 = .ok (.arraylength, 1) := by decide +kernel
theorem dX0_placeOf_16 : decode cX0_placeOf 16 = .ok (.if_icmp .ge 21, 3) := by decide +kernel
theorem dX0_placeOf_19 : decode cX0_placeOf 19 = .ok (.aload_n 0, 1) := by decide +kernel
theorem dX0_placeOf_20 : decode cX0_placeOf 20 = .ok (.getfield 9, 3) := by decide +kernel
theorem dX0_placeOf_23 : decode cX0_placeOf 23 = .ok (.iload_n 2, 1) := by decide +kernel
theorem dX0_placeOf_24 : decode cX0_placeOf 24 = .ok (.iaload, 1) := by decide +kernel
theorem dX0_placeOf_25 : decode cX0_placeOf 25 = .ok (.iload_n 1, 1) := by decide +kernel
theorem dX0_placeOf_26 : decode cX0_placeOf 26 = .ok (.if_icmp .ne 5, 3) := by decide +kernel
theorem dX0_placeOf_29 : decode cX0_placeOf 29 = .ok (.iload_n 2, 1) := by decide +kernel
theorem dX0_placeOf_30 : decode cX0_placeOf 30 = .ok (.ireturn, 1) := by decide +kernel
theorem dX0_placeOf_31 : decode cX0_placeOf 31 = .ok (.iinc 2 1, 3) := by decide +kernel
theorem dX0_placeOf_34 : decode cX0_placeOf 34 = .ok (.goto (-32), 3) := by decide +kernel
theorem dX0_placeOf_37 : decode cX0_placeOf 37 = .ok (.iconst (-1), 1) := by decide +kernel
theorem dX0_placeOf_38 : decode cX0_placeOf 38 = .ok (.ireturn, 1) := by decide +kernel
theorem dX0_has_0 : decode cX0_has 0 = .ok (.aload_n 0, 1) := by decide +kernel
theorem dX0_has_1 : decode cX0_has 1 = .ok (.iload_n 1, 1) := by decide +kernel
theorem dX0_has_2 : decode cX0_has 2 = .ok (.invokevirtual 19, 3) := by decide +kernel
theorem dX0_has_5 : decode cX0_has 5 = .ok (.iconst (-1), 1) := by decide +kernel
theorem dX0_has_6 : decode cX0_has 6 = .ok (.if_icmp .eq 7, 3) := by decide +kernel
theorem dX0_has_9 : decode cX0_has 9 = .ok (.iconst 1, 1) := by decide +kernel
theorem dX0_has_10 : decode cX0_has 10 = .ok (.goto 4, 3) := by decide +kernel
theorem dX0_has_13 : decode cX0_has 13 = .ok (.iconst 0, 1) := by decide +kernel
theorem dX0_has_14 : decode cX0_has 14 = .ok (.ireturn, 1) := by decide +kernel
theorem dX0_append_0 : decode cX0_append 0 = .ok (.aload_n 0, 1) := by decide +kernel
theorem dX0_append_1 : decode cX0_append 1 = .ok (.getfield 15, 3) := by decide +kernel
theorem dX0_append_4 : decode cX0_append 4 = .ok (.ifCond .lt 35, 3) := by decide +kernel
theorem dX0_append_7 : decode cX0_append 7 = .ok (.aload_n 0, 1) := by decide +kernel
theorem dX0_append_8 : decode cX0_append 8 = .ok (.getfield 15, 3) := by decide +kernel
theorem dX0_append_11 : decode cX0_append 11 = .ok (.aload_n 0, 1) := by decide +kernel
theorem dX0_append_12 : decode cX0_append 12 = .ok (.getfield 9, 3) := by decide +kernel
theorem dX0_append_15 : decode cX0_append 15 = .ok (.arraylength, 1) := by decide +kernel
theorem dX0_append_16 : decode cX0_append 16 = .ok (.if_icmp .ge 23, 3) := by decide +kernel
theorem dX0_append_19 : decode cX0_append 19 = .ok (.aload_n 0, 1) := by decide +kernel
theorem dX0_append_20 : decode cX0_append 20 = .ok (.getfield 9, 3) := by decide +kernel
theorem dX0_append_23 : decode cX0_append 23 = .ok (.aload_n 0, 1) := by decide +kernel
theorem dX0_append_24 : decode cX0_append 24 = .ok (.getfield 15, 3) := by decide +kernel
theorem dX0_append_27 : decode cX0_append 27 = .ok (.iload_n 1, 1) := by decide +kernel
theorem dX0_append_28 : decode cX0_append 28 = .ok (.iastore, 1) := by decide +kernel
theorem dX0_append_29 : decode cX0_append 29 = .ok (.aload_n 0, 1) := by decide +kernel
theorem dX0_append_30 : decode cX0_append 30 = .ok (.dup, 1) := by decide +kernel
theorem dX0_append_31 : decode cX0_append 31 = .ok (.getfield 15, 3) := by decide +kernel
theorem dX0_append_34 : decode cX0_append 34 = .ok (.iconst 1, 1) := by decide +kernel
theorem dX0_append_35 : decode cX0_append 35 = .ok (.iadd, 1) := by decide +kernel
theorem dX0_append_36 : decode cX0_append 36 = .ok (.putfield 15, 3) := by decide +kernel
theorem dX0_append_39 : decode cX0_append 39 = .ok (.return_, 1) := by decide +kernel
theorem dX0_takeOut_0 : decode cX0_takeOut 0 = .ok (.iload_n 1, 1) := by decide +kernel
theorem dX0_takeOut_1 : decode cX0_takeOut 1 = .ok (.ifCond .lt 11, 3) := by decide +kernel
theorem dX0_takeOut_4 : decode cX0_takeOut 4 = .ok (.iload_n 1, 1) := by decide +kernel
theorem dX0_takeOut_5 : decode cX0_takeOut 5 = .ok (.aload_n 0, 1) := by decide +kernel
theorem dX0_takeOut_6 : decode cX0_takeOut 6 = .ok (.getfield 15, 3) := by decide +kernel
theorem dX0_takeOut_9 : decode cX0_takeOut 9 = .ok (.if_icmp .lt 4, 3) := by decide +kernel
theorem dX0_takeOut_12 : decode cX0_takeOut 12 = .ok (.return_, 1) := by decide +kernel
theorem dX0_takeOut_13 : decode cX0_takeOut 13 = .ok (.iload_n 1, 1) := by decide +kernel
theorem dX0_takeOut_14 : decode cX0_takeOut 14 = .ok (.iconst 1, 1) := by decide +kernel
theorem dX0_takeOut_15 : decode cX0_takeOut 15 = .ok (.iadd, 1) := by decide +kernel
theorem dX0_takeOut_16 : decode cX0_takeOut 16 = .ok (.istore_n 2, 1) := by decide +kernel
theorem dX0_takeOut_17 : decode cX0_takeOut 17 = .ok (.iload_n 2, 1) := by decide +kernel
theorem dX0_takeOut_18 : decode cX0_takeOut 18 = .ok (.aload_n 0, 1) := by decide +kernel
theorem dX0_takeOut_19 : decode cX0_takeOut 19 = .ok (.getfield 15, 3) := by decide +kernel
theorem dX0_takeOut_22 : decode cX0_takeOut 22 = .ok (.if_icmp .ge 32, 3) := by decide +kernel
theorem dX0_takeOut_25 : decode cX0_takeOut 25 = .ok (.iload_n 2, 1) := by decide +kernel
theorem dX0_takeOut_26 : decode cX0_takeOut 26 = .ok (.aload_n 0, 1) := by decide +kernel
theorem dX0_takeOut_27 : decode cX0_takeOut 27 = .ok (.getfield 9, 3) := by decide +kernel
theorem dX0_takeOut_30 : decode cX0_takeOut 30 = .ok (.arraylength, 1) := by decide +kernel
theorem dX0_takeOut_31 : decode cX0_takeOut 31 = .ok (.if_icmp .ge 23, 3) := by decide +kernel
theorem dX0_takeOut_34 : decode cX0_takeOut 34 = .ok (.aload_n 0, 1) := by decide +kernel
theorem dX0_takeOut_35 : decode cX0_takeOut 35 = .ok (.getfield 9, 3) := by decide +kernel
theorem dX0_takeOut_38 : decode cX0_takeOut 38 = .ok (.iload_n 2, 1) := by decide +kernel
theorem dX0_takeOut_39 : decode cX0_takeOut 39 = .ok (.iconst 1, 1) := by decide +kernel
theorem dX0_takeOut_40 : decode cX0_takeOut 40 = .ok (.isub, 1) := by decide +kernel
theorem dX0_takeOut_41 : decode cX0_takeOut 41 = .ok (.aload_n 0, 1) := by decide +kernel
theorem dX0_takeOut_42 : decode cX0_takeOut 42 = .ok (.getfield 9, 3) := by decide +kernel
theorem dX0_takeOut_45 : decode cX0_takeOut 45 = .ok (.iload_n 2, 1) := by decide +kernel
theorem dX0_takeOut_46 : decode cX0_takeOut 46 = .ok (.iaload, 1) := by decide +kernel
theorem dX0_takeOut_47 : decode cX0_takeOut 47 = .ok (.iastore, 1) := by decide +kernel
theorem dX0_takeOut_48 : decode cX0_takeOut 48 = .ok (.iinc 2 1, 3) := by decide +kernel
theorem dX0_takeOut_51 : decode cX0_takeOut 51 = .ok (.goto (-34), 3) := by decide +kernel
theorem dX0_takeOut_54 : decode cX0_takeOut 54 = .ok (.aload_n 0, 1) := by decide +kernel
theorem dX0_takeOut_55 : decode cX0_takeOut 55 = .ok (.dup, 1) := by decide +kernel
theorem dX0_takeOut_56 : decode cX0_takeOut 56 = .ok (.getfield 15, 3) := by decide +kernel
theorem dX0_takeOut_59 : decode cX0_takeOut 59 = .ok (.iconst 1, 1) := by decide +kernel
theorem dX0_takeOut_60 : decode cX0_takeOut 60 = .ok (.isub, 1) := by decide +kernel
theorem dX0_takeOut_61 : decode cX0_takeOut 61 = .ok (.putfield 15, 3) := by decide +kernel
theorem dX0_takeOut_64 : decode cX0_takeOut 64 = .ok (.return_, 1) := by decide +kernel
theorem dX0_forgetEldest_0 : decode cX0_forgetEldest 0 = .ok (.aload_n 0, 1) := by decide +kernel
theorem dX0_forgetEldest_1 : decode cX0_forgetEldest 1 = .ok (.getfield 15, 3) := by decide +kernel
theorem dX0_forgetEldest_4 : decode cX0_forgetEldest 4 = .ok (.iload_n 1, 1) := by decide +kernel
theorem dX0_forgetEldest_5 : decode cX0_forgetEldest 5 = .ok (.isub, 1) := by decide +kernel
theorem dX0_forgetEldest_6 : decode cX0_forgetEldest 6 = .ok (.istore_n 2, 1) := by decide +kernel
theorem dX0_forgetEldest_7 : decode cX0_forgetEldest 7 = .ok (.iload_n 2, 1) := by decide +kernel
theorem dX0_forgetEldest_8 : decode cX0_forgetEldest 8 = .ok (.ifCond .le 14, 3) := by decide +kernel
theorem dX0_forgetEldest_11 : decode cX0_forgetEldest 11 = .ok (.aload_n 0, 1) := by decide +kernel
theorem dX0_forgetEldest_12 : decode cX0_forgetEldest 12 = .ok (.iconst 0, 1) := by decide +kernel
theorem dX0_forgetEldest_13 : decode cX0_forgetEldest 13 = .ok (.invokevirtual 23, 3) := by decide +kernel
theorem dX0_forgetEldest_16 : decode cX0_forgetEldest 16 = .ok (.iinc 2 (-1), 3) := by decide +kernel
theorem dX0_forgetEldest_19 : decode cX0_forgetEldest 19 = .ok (.goto (-12), 3) := by decide +kernel
theorem dX0_forgetEldest_22 : decode cX0_forgetEldest 22 = .ok (.return_, 1) := by decide +kernel
theorem dX1_init_0 : decode cX1_init 0 = .ok (.aload_n 0, 1) := by decide +kernel
theorem dX1_init_1 : decode cX1_init 1 = .ok (.invokespecial 3, 3) := by decide +kernel
theorem dX1_init_4 : decode cX1_init 4 = .ok (.aload_n 0, 1) := by decide +kernel
theorem dX1_init_5 : decode cX1_init 5 = .ok (.new 9, 3) := by decide +kernel
theorem dX1_init_8 : decode cX1_init 8 = .ok (.dup, 1) := by decide +kernel
theorem dX1_init_9 : decode cX1_init 9 = .ok (.invokespecial 11, 3) := by decide +kernel
theorem dX1_init_12 : decode cX1_init 12 = .ok (.putfield 12, 3) := by decide +kernel
theorem dX1_init_15 : decode cX1_init 15 = .ok (.aload_n 0, 1) := by decide +kernel
theorem dX1_init_16 : decode cX1_init 16 = .ok (.new 9, 3) := by decide +kernel
theorem dX1_init_19 : decode cX1_init 19 = .ok (.dup, 1) := by decide +kernel
theorem dX1_init_20 : decode cX1_init 20 = .ok (.invokespecial 11, 3) := by decide +kernel
theorem dX1_init_23 : decode cX1_init 23 = .ok (.putfield 18, 3) := by decide +kernel
theorem dX1_init_26 : decode cX1_init 26 = .ok (.aload_n 0, 1) := by decide +kernel
theorem dX1_init_27 : decode cX1_init 27 = .ok (.new 9, 3) := by decide +kernel
theorem dX1_init_30 : decode cX1_init 30 = .ok (.dup, 1) := by decide +kernel
theorem dX1_init_31 : decode cX1_init 31 = .ok (.invokespecial 11, 3) := by decide +kernel
theorem dX1_init_34 : decode cX1_init 34 = .ok (.putfield 21, 3) := by decide +kernel
theorem dX1_init_37 : decode cX1_init 37 = .ok (.aload_n 0, 1) := by decide +kernel
theorem dX1_init_38 : decode cX1_init 38 = .ok (.new 9, 3) := by decide +kernel
theorem dX1_init_41 : decode cX1_init 41 = .ok (.dup, 1) := by decide +kernel
theorem dX1_init_42 : decode cX1_init 42 = .ok (.invokespecial 11, 3) := by decide +kernel
theorem dX1_init_45 : decode cX1_init 45 = .ok (.putfield 24, 3) := by decide +kernel
theorem dX1_init_48 : decode cX1_init 48 = .ok (.aload_n 0, 1) := by decide +kernel
theorem dX1_init_49 : decode cX1_init 49 = .ok (.new 27, 3) := by decide +kernel
theorem dX1_init_52 : decode cX1_init 52 = .ok (.dup, 1) := by decide +kernel
theorem dX1_init_53 : decode cX1_init 53 = .ok (.invokespecial 29, 3) := by decide +kernel
theorem dX1_init_56 : decode cX1_init 56 = .ok (.putfield 30, 3) := by decide +kernel
theorem dX1_init_59 : decode cX1_init 59 = .ok (.aload_n 0, 1) := by decide +kernel
theorem dX1_init_60 : decode cX1_init 60 = .ok (.new 27, 3) := by decide +kernel
theorem dX1_init_63 : decode cX1_init 63 = .ok (.dup, 1) := by decide +kernel
theorem dX1_init_64 : decode cX1_init 64 = .ok (.invokespecial 29, 3) := by decide +kernel
theorem dX1_init_67 : decode cX1_init 67 = .ok (.putfield 34, 3) := by decide +kernel
theorem dX1_init_70 : decode cX1_init 70 = .ok (.aload_n 0, 1) := by decide +kernel
theorem dX1_init_71 : decode cX1_init 71 = .ok (.new 27, 3) := by decide +kernel
theorem dX1_init_74 : decode cX1_init 74 = .ok (.dup, 1) := by decide +kernel
theorem dX1_init_75 : decode cX1_init 75 = .ok (.invokespecial 29, 3) := by decide +kernel
theorem dX1_init_78 : decode cX1_init 78 = .ok (.putfield 37, 3) := by decide +kernel
theorem dX1_init_81 : decode cX1_init 81 = .ok (.aload_n 0, 1) := by decide +kernel
theorem dX1_init_82 : decode cX1_init 82 = .ok (.bipush 6, 2) := by decide +kernel
theorem dX1_init_84 : decode cX1_init 84 = .ok (.putfield 40, 3) := by decide +kernel
theorem dX1_init_87 : decode cX1_init 87 = .ok (.return_, 1) := by decide +kernel
theorem dX1_become_0 : decode cX1_become 0 = .ok (.aload_n 0, 1) := by decide +kernel
theorem dX1_become_1 : decode cX1_become 1 = .ok (.getfield 12, 3) := by decide +kernel
theorem dX1_become_4 : decode cX1_become 4 = .ok (.aload_n 1, 1) := by decide +kernel
theorem dX1_become_5 : decode cX1_become 5 = .ok (.getfield 12, 3) := by decide +kernel
theorem dX1_become_8 : decode cX1_become 8 = .ok (.invokevirtual 44, 3) := by decide +kernel
theorem dX1_become_11 : decode cX1_become 11 = .ok (.aload_n 0, 1) := by decide +kernel
theorem dX1_become_12 : decode cX1_become 12 = .ok (.getfield 18, 3) := by decide +kernel
theorem dX1_become_15 : decode cX1_become 15 = .ok (.aload_n 1, 1) := by decide +kernel
theorem dX1_become_16 : decode cX1_become 16 = .ok (.getfield 18, 3) := by decide +kernel
theorem dX1_become_19 : decode cX1_become 19 = .ok (.invokevirtual 44, 3) := by decide +kernel
theorem dX1_become_22 : decode cX1_become 22 = .ok (.aload_n 0, 1) := by decide +kernel
theorem dX1_become_23 : decode cX1_become 23 = .ok (.getfield 21, 3) := by decide +kernel
theorem dX1_become_26 : decode cX1_become 26 = .ok (.aload_n 1, 1) := by decide +kernel
theorem dX1_become_27 : decode cX1_become 27 = .ok (.getfield 21, 3) := by decide +kernel
theorem dX1_become_30 : decode cX1_become 30 = .ok (.invokevirtual 44, 3) := by decide +kernel
theorem dX1_become_33 : decode cX1_become 33 = .ok (.aload_n 0, 1) := by decide +kernel
theorem dX1_become_34 : decode cX1_become 34 = .ok (.getfield 24, 3) := by decide +kernel
theorem dX1_become_37 : decode cX1_become 37 = .ok (.aload_n 1, 1) := by decide +kernel
theorem dX1_become_38 : decode cX1_become 38 = .ok (.getfield 24, 3) := by decide +kernel
theorem dX1_become_41 : decode cX1_become 41 = .ok (.invokevirtual 44, 3) := by decide +kernel
theorem dX1_become_44 : decode cX1_become 44 = .ok (.aload_n 0, 1) := by decide +kernel
theorem dX1_become_45 : decode cX1_become 45 = .ok (.getfield 30, 3) := by decide +kernel
theorem dX1_become_48 : decode cX1_become 48 = .ok (.aload_n 1, 1) := by decide +kernel
theorem dX1_become_49 : decode cX1_become 49 = .ok (.getfield 30, 3) := by decide +kernel
theorem dX1_become_52 : decode cX1_become 52 = .ok (.invokevirtual 48, 3) := by decide +kernel
theorem dX1_become_55 : decode cX1_become 55 = .ok (.aload_n 0, 1) := by decide +kernel
theorem dX1_become_56 : decode cX1_become 56 = .ok (.getfield 34, 3) := by decide +kernel
theorem dX1_become_59 : decode cX1_become 59 = .ok (.aload_n 1, 1) := by decide +kernel
theorem dX1_become_60 : decode cX1_become 60 = .ok (.getfield 34, 3) := by decide +kernel
theorem dX1_become_63 : decode cX1_become 63 = .ok (.invokevirtual 48, 3) := by decide +kernel
theorem dX1_become_66 : decode cX1_become 66 = .ok (.aload_n 0, 1) := by decide +kernel
theorem dX1_become_67 : decode cX1_become 67 = .ok (.getfield 37, 3) := by decide +kernel
theorem dX1_become_70 : decode cX1_become 70 = .ok (.aload_n 1, 1) := by decide +kernel
theorem dX1_become_71 : decode cX1_become 71 = .ok (.getfield 37, 3) := by decide +kernel
theorem dX1_become_74 : decode cX1_become 74 = .ok (.invokevirtual 48, 3) := by decide +kernel
theorem dX1_become_77 : decode cX1_become 77 = .ok (.aload_n 0, 1) := by decide +kernel
theorem dX1_become_78 : decode cX1_become 78 = .ok (.aload_n 1, 1) := by decide +kernel
theorem dX1_become_79 : decode cX1_become 79 = .ok (.getfield 40, 3) := by decide +kernel
theorem dX1_become_82 : decode cX1_become 82 = .ok (.putfield 40, 3) := by decide +kernel
theorem dX1_become_85 : decode cX1_become 85 = .ok (.aload_n 0, 1) := by decide +kernel
theorem dX1_become_86 : decode cX1_become 86 = .ok (.aload_n 1, 1) := by decide +kernel
theorem dX1_become_87 : decode cX1_become 87 = .ok (.getfield 51, 3) := by decide +kernel
theorem dX1_become_90 : decode cX1_become 90 = .ok (.putfield 51, 3) := by decide +kernel
theorem dX1_become_93 : decode cX1_become 93 = .ok (.aload_n 0, 1) := by decide +kernel
theorem dX1_become_94 : decode cX1_become 94 = .ok (.aload_n 1, 1) := by decide +kernel
theorem dX1_become_95 : decode cX1_become 95 = .ok (.getfield 54, 3) := by decide +kernel
theorem dX1_become_98 : decode cX1_become 98 = .ok (.putfield 54, 3) := by decide +kernel
theorem dX1_become_101 : decode cX1_become 101 = .ok (.aload_n 0, 1) := by decide +kernel
theorem dX1_become_102 : decode cX1_become 102 = .ok (.aload_n 1, 1) := by decide +kernel
theorem dX1_become_103 : decode cX1_become 103 = .ok (.getfield 57, 3) := by decide +kernel
theorem dX1_become_106 : decode cX1_become 106 = .ok (.putfield 57, 3) := by decide +kernel
theorem dX1_become_109 : decode cX1_become 109 = .ok (.aload_n 0, 1) := by decide +kernel
theorem dX1_become_110 : decode cX1_become 110 = .ok (.aload_n 1, 1) := by decide +kernel
theorem dX1_become_111 : decode cX1_become 111 = .ok (.getfield 60, 3) := by decide +kernel
theorem dX1_become_114 : decode cX1_become 114 = .ok (.putfield 60, 3) := by decide +kernel
theorem dX1_become_117 : decode cX1_become 117 = .ok (.aload_n 0, 1) := by decide +kernel
theorem dX1_become_118 : decode cX1_become 118 = .ok (.aload_n 1, 1) := by decide +kernel
theorem dX1_become_119 : decode cX1_become 119 = .ok (.getfield 63, 3) := by decide +kernel
theorem dX1_become_122 : decode cX1_become 122 = .ok (.putfield 63, 3) := by decide +kernel
theorem dX1_become_125 : decode cX1_become 125 = .ok (.return_, 1) := by decide +kernel
theorem dX1_rowOf_0 : decode cX1_rowOf 0 = .ok (.iload_n 1, 1) := by decide +kernel
theorem dX1_rowOf_1 : decode cX1_rowOf 1 = .ok (.ifCond .ne 10, 3) := by decide +kernel
theorem dX1_rowOf_4 : decode cX1_rowOf 4 = .ok (.aload_n 0, 1) := by decide +kernel
theorem dX1_rowOf_5 : decode cX1_rowOf 5 = .ok (.getfield 12, 3) := by decide +kernel
theorem dX1_rowOf_8 : decode cX1_rowOf 8 = .ok (.goto 7, 3) := by decide +kernel
theorem dX1_rowOf_11 : decode cX1_rowOf 11 = .ok (.aload_n 0, 1) := by decide +kernel
theorem dX1_rowOf_12 : decode cX1_rowOf 12 = .ok (.getfield 18, 3) := by decide +kernel
theorem dX1_rowOf_15 : decode cX1_rowOf 15 = .ok (.areturn, 1) := by decide +kernel
theorem dX1_listOf_0 : decode cX1_listOf 0 = .ok (.iload_n 1, 1) := by decide +kernel
theorem dX1_listOf_1 : decode cX1_listOf 1 = .ok (.ifCond .ne 10, 3) := by decide +kernel
theorem dX1_listOf_4 : decode cX1_listOf 4 = .ok (.aload_n 0, 1) := by decide +kernel
theorem dX1_listOf_5 : decode cX1_listOf 5 = .ok (.getfield 21, 3) := by decide +kernel
theorem dX1_listOf_8 : decode cX1_listOf 8 = .ok (.goto 7, 3) := by decide +kernel
theorem dX1_listOf_11 : decode cX1_listOf 11 = .ok (.aload_n 0, 1) := by decide +kernel
theorem dX1_listOf_12 : decode cX1_listOf 12 = .ok (.getfield 24, 3) := by decide +kernel
theorem dX1_listOf_15 : decode cX1_listOf 15 = .ok (.areturn, 1) := by decide +kernel
theorem dX1_hasJar_0 : decode cX1_hasJar 0 = .ok (.aload_n 0, 1) := by decide +kernel
theorem dX1_hasJar_1 : decode cX1_hasJar 1 = .ok (.getfield 12, 3) := by decide +kernel
theorem dX1_hasJar_4 : decode cX1_hasJar 4 = .ok (.iload_n 1, 1) := by decide +kernel
theorem dX1_hasJar_5 : decode cX1_hasJar 5 = .ok (.invokevirtual 66, 3) := by decide +kernel
theorem dX1_hasJar_8 : decode cX1_hasJar 8 = .ok (.ifCond .ne 14, 3) := by decide +kernel
theorem dX1_hasJar_11 : decode cX1_hasJar 11 = .ok (.aload_n 0, 1) := by decide +kernel
theorem dX1_hasJar_12 : decode cX1_hasJar 12 = .ok (.getfield 18, 3) := by decide +kernel
theorem dX1_hasJar_15 : decode cX1_hasJar 15 = .ok (.iload_n 1, 1) := by decide +kernel
theorem dX1_hasJar_16 : decode cX1_hasJar 16 = .ok (.invokevirtual 66, 3) := by decide +kernel
theorem dX1_hasJar_19 : decode cX1_hasJar 19 = .ok (.ifCond .eq 7, 3) := by decide +kernel
theorem dX1_hasJar_22 : decode cX1_hasJar 22 = .ok (.iconst 1, 1) := by decide +kernel
theorem dX1_hasJar_23 : decode cX1_hasJar 23 = .ok (.goto 4, 3) := by decide +kernel
theorem dX1_hasJar_26 : decode cX1_hasJar 26 = .ok (.iconst 0, 1) := by decide +kernel
theorem dX1_hasJar_27 : decode cX1_hasJar 27 = .ok (.ireturn, 1) := by decide +kernel
theorem dX1_jars_0 : decode cX1_jars 0 = .ok (.aload_n 0, 1) := by decide +kernel
theorem dX1_jars_1 : decode cX1_jars 1 = .ok (.getfield 12, 3) := by decide +kernel
theorem dX1_jars_4 : decode cX1_jars 4 = .ok (.getfield 70, 3) := by decide +kernel
theorem dX1_jars_7 : decode cX1_jars 7 = .ok (.aload_n 0, 1) := by decide +kernel
theorem dX1_jars_8 : decode cX1_jars 8 = .ok (.getfield 18, 3) := by decide +kernel
theorem dX1_jars_11 : decode cX1_jars 11 = .ok (.getfield 70, 3) := by decide +kernel
theorem dX1_jars_14 : decode cX1_jars 14 = .ok (.iadd, 1) := by decide +kernel
theorem dX1_jars_15 : decode cX1_jars 15 = .ok (.ireturn, 1) := by decide +kernel
theorem dX1_pinnedJars_0 : decode cX1_pinnedJars 0 = .ok (.aload_n 0, 1) := by decide +kernel
theorem dX1_pinnedJars_1 : decode cX1_pinnedJars 1 = .ok (.aload_n 0, 1) := by decide +kernel
theorem dX1_pinnedJars_2 : decode cX1_pinnedJars 2 = .ok (.getfield 12, 3) := by decide +kernel
theorem dX1_pinnedJars_5 : decode cX1_pinnedJars 5 = .ok (.invokevirtual 73, 3) := by decide +kernel
theorem dX1_pinnedJars_8 : decode cX1_pinnedJars 8 = .ok (.aload_n 0, 1) := by decide +kernel
theorem dX1_pinnedJars_9 : decode cX1_pinnedJars 9 = .ok (.aload_n 0, 1) := by decide +kernel
theorem dX1_pinnedJars_10 : decode cX1_pinnedJars 10 = .ok (.getfield 18, 3) := by decide +kernel
theorem dX1_pinnedJars_13 : decode cX1_pinnedJars 13 = .ok (.invokevirtual 73, 3) := by decide +kernel
theorem dX1_pinnedJars_16 : decode cX1_pinnedJars 16 = .ok (.iadd, 1) := by decide +kernel
theorem dX1_pinnedJars_17 : decode cX1_pinnedJars 17 = .ok (.ireturn, 1) := by decide +kernel
theorem dX1_pinnedOn_0 : decode cX1_pinnedOn 0 = .ok (.iconst 0, 1) := by decide +kernel
theorem dX1_pinnedOn_1 : decode cX1_pinnedOn 1 = .ok (.istore_n 2, 1) := by decide +kernel
theorem dX1_pinnedOn_2 : decode cX1_pinnedOn 2 = .ok (.iconst 0, 1) := by decide +kernel
theorem dX1_pinnedOn_3 : decode cX1_pinnedOn 3 = .ok (.istore_n 3, 1) := by decide +kernel
theorem dX1_pinnedOn_4 : decode cX1_pinnedOn 4 = .ok (.iload_n 3, 1) := by decide +kernel
theorem dX1_pinnedOn_5 : decode cX1_pinnedOn 5 = .ok (.aload_n 1, 1) := by decide +kernel
theorem dX1_pinnedOn_6 : decode cX1_pinnedOn 6 = .ok (.getfield 70, 3) := by decide +kernel
theorem dX1_pinnedOn_9 : decode cX1_pinnedOn 9 = .ok (.if_icmp .ge 27, 3) := by decide +kernel
theorem dX1_pinnedOn_12 : decode cX1_pinnedOn 12 = .ok (.aload_n 0, 1) := by decide +kernel
theorem dX1_pinnedOn_13 : decode cX1_pinnedOn 13 = .ok (.getfield 34, 3) := by decide +kernel
theorem dX1_pinnedOn_16 : decode cX1_pinnedOn 16 = .ok (.aload_n 1, 1) := by decide +kernel
theorem dX1_pinnedOn_17 : decode cX1_pinnedOn 17 = .ok (.iload_n 3, 1) := by decide +kernel
theorem dX1_pinnedOn_18 : decode cX1_pinnedOn 18 = .ok (.invokevirtual 77, 3) := by decide +kernel
theorem dX1_pinnedOn_21 : decode cX1_pinnedOn 21 = .ok (.invokevirtual 81, 3) := by decide +kernel
theorem dX1_pinnedOn_24 : decode cX1_pinnedOn 24 = .ok (.ifCond .le 6, 3) := by decide +kernel
theorem dX1_pinnedOn_27 : decode cX1_pinnedOn 27 = .ok (.iinc 2 1, 3) := by decide +kernel
theorem dX1_pinnedOn_30 : decode cX1_pinnedOn 30 = .ok (.iinc 3 1, 3) := by decide +kernel
theorem dX1_pinnedOn_33 : decode cX1_pinnedOn 33 = .ok (.goto (-29), 3) := by decide +kernel
theorem dX1_pinnedOn_36 : decode cX1_pinnedOn 36 = .ok (.iload_n 2, 1) := by decide +kernel
theorem dX1_pinnedOn_37 : decode cX1_pinnedOn 37 = .ok (.ireturn, 1) := by decide +kernel
theorem dX1_forecast_0 : decode cX1_forecast 0 = .ok (.aload_n 0, 1) := by decide +kernel
theorem dX1_forecast_1 : decode cX1_forecast 1 = .ok (.iload_n 1, 1) := by decide +kernel
theorem dX1_forecast_2 : decode cX1_forecast 2 = .ok (.invokevirtual 84, 3) := by decide +kernel
theorem dX1_forecast_5 : decode cX1_forecast 5 = .ok (.ifCond .eq 5, 3) := by decide +kernel
theorem dX1_forecast_8 : decode cX1_forecast 8 = .ok (.iconst 0, 1) := by decide +kernel
theorem dX1_forecast_9 : decode cX1_forecast 9 = .ok (.ireturn, 1) := by decide +kernel
theorem dX1_forecast_10 : decode cX1_forecast 10 = .ok (.aload_n 0, 1) := by decide +kernel
theorem dX1_forecast_11 : decode cX1_forecast 11 = .ok (.invokevirtual 87, 3) := by decide +kernel
theorem dX1_forecast_14 : decode cX1_forecast 14 = .ok (.aload_n 0, 1) := by decide +kernel
theorem dX1_forecast_15 : decode cX1_forecast 15 = .ok (.getfield 40, 3) := by decide +kernel
theorem dX1_forecast_18 : decode cX1_forecast 18 = .ok (.if_icmp .lt 17, 3) := by decide +kernel
theorem dX1_forecast_21 : decode cX1_forecast 21 = .ok (.aload_n 0, 1) := by decide +kernel
theorem dX1_forecast_22 : decode cX1_forecast 22 = .ok (.invokevirtual 91, 3) := by decide +kernel
theorem dX1_forecast_25 : decode cX1_forecast 25 = .ok (.aload_n 0, 1) := by decide +kernel
theorem dX1_forecast_26 : decode cX1_forecast 26 = .ok (.invokevirtual 87, 3) := by decide +kernel
theorem dX1_forecast_29 : decode cX1_forecast 29 = .ok (.if_icmp .lt 6, 3) := by decide +kernel
theorem dX1_forecast_32 : decode cX1_forecast 32 = .ok (.bipush (-9), 2) := by decide +kernel
theorem dX1_forecast_34 : decode cX1_forecast 34 = .ok (.ireturn, 1) := by decide +kernel
theorem dX1_forecast_35 : decode cX1_forecast 35 = .ok (.aload_n 0, 1) := by decide +kernel
theorem dX1_forecast_36 : decode cX1_forecast 36 = .ok (.getfield 21, 3) := by decide +kernel
theorem dX1_forecast_39 : decode cX1_forecast 39 = .ok (.iload_n 1, 1) := by decide +kernel
theorem dX1_forecast_40 : decode cX1_forecast 40 = .ok (.invokevirtual 66, 3) := by decide +kernel
theorem dX1_forecast_43 : decode cX1_forecast 43 = .ok (.ifCond .eq 5, 3) := by decide +kernel
theorem dX1_forecast_46 : decode cX1_forecast 46 = .ok (.iconst 2, 1) := by decide +kernel
theorem dX1_forecast_47 : decode cX1_forecast 47 = .ok (.ireturn, 1) := by decide +kernel
theorem dX1_forecast_48 : decode cX1_forecast 48 = .ok (.aload_n 0, 1) := by decide +kernel
theorem dX1_forecast_49 : decode cX1_forecast 49 = .ok (.getfield 24, 3) := by decide +kernel
theorem dX1_forecast_52 : decode cX1_forecast 52 = .ok (.iload_n 1, 1) := by decide +kernel
theorem dX1_forecast_53 : decode cX1_forecast 53 = .ok (.invokevirtual 66, 3) := by decide +kernel
theorem dX1_forecast_56 : decode cX1_forecast 56 = .ok (.ifCond .eq 7, 3) := by decide +kernel
theorem dX1_forecast_59 : decode cX1_forecast 59 = .ok (.iconst 3, 1) := by decide +kernel
theorem dX1_forecast_60 : decode cX1_forecast 60 = .ok (.goto 4, 3) := by decide +kernel
theorem dX1_forecast_63 : decode cX1_forecast 63 = .ok (.iconst 1, 1) := by decide +kernel
theorem dX1_forecast_64 : decode cX1_forecast 64 = .ok (.ireturn, 1) := by decide +kernel
theorem dX1_bring_0 : decode cX1_bring 0 = .ok (.aload_n 0, 1) := by decide +kernel
theorem dX1_bring_1 : decode cX1_bring 1 = .ok (.iload_n 1, 1) := by decide +kernel
theorem dX1_bring_2 : decode cX1_bring 2 = .ok (.invokevirtual 94, 3) := by decide +kernel
theorem dX1_bring_5 : decode cX1_bring 5 = .ok (.istore_n 2, 1) := by decide +kernel
theorem dX1_bring_6 : decode cX1_bring 6 = .ok (.iload_n 2, 1) := by decide +kernel
theorem dX1_bring_7 : decode cX1_bring 7 = .ok (.bipush (-9), 2) := by decide +kernel
theorem dX1_bring_9 : decode cX1_bring 9 = .ok (.if_icmp .ne 5, 3) := by decide +kernel
theorem dX1_bring_12 : decode cX1_bring 12 = .ok (.iload_n 2, 1) := by decide +kernel
theorem dX1_bring_13 : decode cX1_bring 13 = .ok (.ireturn, 1) := by decide +kernel
theorem dX1_bring_14 : decode cX1_bring 14 = .ok (.iload_n 2, 1) := by decide +kernel
theorem dX1_bring_15 : decode cX1_bring 15 = .ok (.ifCond .ne 42, 3) := by decide +kernel
theorem dX1_bring_18 : decode cX1_bring 18 = .ok (.aload_n 0, 1) := by decide +kernel
theorem dX1_bring_19 : decode cX1_bring 19 = .ok (.dup, 1) := by decide +kernel
theorem dX1_bring_20 : decode cX1_bring 20 = .ok (.getfield 54, 3) := by decide +kernel
theorem dX1_bring_23 : decode cX1_bring 23 = .ok (.iconst 1, 1) := by decide +kernel
theorem dX1_bring_24 : decode cX1_bring 24 = .ok (.iadd, 1) := by decide +kernel
theorem dX1_bring_25 : decode cX1_bring 25 = .ok (.putfield 54, 3) := by decide +kernel
theorem dX1_bring_28 : decode cX1_bring 28 = .ok (.aload_n 0, 1) := by decide +kernel
theorem dX1_bring_29 : decode cX1_bring 29 = .ok (.getfield 30, 3) := by decide +kernel
theorem dX1_bring_32 : decode cX1_bring 32 = .ok (.iload_n 1, 1) := by decide +kernel
theorem dX1_bring_33 : decode cX1_bring 33 = .ok (.iconst 1, 1) := by decide +kernel
theorem dX1_bring_34 : decode cX1_bring 34 = .ok (.invokevirtual 97, 3) := by decide +kernel
theorem dX1_bring_37 : decode cX1_bring 37 = .ok (.aload_n 0, 1) := by decide +kernel
theorem dX1_bring_38 : decode cX1_bring 38 = .ok (.getfield 37, 3) := by decide +kernel
theorem dX1_bring_41 : decode cX1_bring 41 = .ok (.iload_n 1, 1) := by decide +kernel
theorem dX1_bring_42 : decode cX1_bring 42 = .ok (.aload_n 0, 1) := by decide +kernel
theorem dX1_bring_43 : decode cX1_bring 43 = .ok (.getfield 37, 3) := by decide +kernel
theorem dX1_bring_46 : decode cX1_bring 46 = .ok (.iload_n 1, 1) := by decide +kernel
theorem dX1_bring_47 : decode cX1_bring 47 = .ok (.invokevirtual 81, 3) := by decide +kernel
theorem dX1_bring_50 : decode cX1_bring 50 = .ok (.iconst 1, 1) := by decide +kernel
theorem dX1_bring_51 : decode cX1_bring 51 = .ok (.iadd, 1) := by decide +kernel
theorem dX1_bring_52 : decode cX1_bring 52 = .ok (.invokevirtual 97, 3) := by decide +kernel
theorem dX1_bring_55 : decode cX1_bring 55 = .ok (.iload_n 2, 1) := by decide +kernel
theorem dX1_bring_56 : decode cX1_bring 56 = .ok (.ireturn, 1) := by decide +kernel
theorem dX1_bring_57 : decode cX1_bring 57 = .ok (.aload_n 0, 1) := by decide +kernel
theorem dX1_bring_58 : decode cX1_bring 58 = .ok (.dup, 1) := by decide +kernel
theorem dX1_bring_59 : decode cX1_bring 59 = .ok (.getfield 57, 3) := by decide +kernel
theorem dX1_bring_62 : decode cX1_bring 62 = .ok (.iconst 1, 1) := by decide +kernel
theorem dX1_bring_63 : decode cX1_bring 63 = .ok (.iadd, 1) := by decide +kernel
theorem dX1_bring_64 : decode cX1_bring 64 = .ok (.putfield 57, 3) := by decide +kernel
theorem dX1_bring_67 : decode cX1_bring 67 = .ok (.aload_n 0, 1) := by decide +kernel
theorem dX1_bring_68 : decode cX1_bring 68 = .ok (.iload_n 1, 1) := by decide +kernel
theorem dX1_bring_69 : decode cX1_bring 69 = .ok (.iload_n 2, 1) := by decide +kernel
theorem dX1_bring_70 : decode cX1_bring 70 = .ok (.invokevirtual 101, 3) := by decide +kernel
theorem dX1_bring_73 : decode cX1_bring 73 = .ok (.aload_n 0, 1) := by decide +kernel
theorem dX1_bring_74 : decode cX1_bring 74 = .ok (.invokevirtual 87, 3) := by decide +kernel
theorem dX1_bring_77 : decode cX1_bring 77 = .ok (.aload_n 0, 1) := by decide +kernel
theorem dX1_bring_78 : decode cX1_bring 78 = .ok (.getfield 40, 3) := by decide +kernel
theorem dX1_bring_81 : decode cX1_bring 81 = .ok (.if_icmp .lt 8, 3) := by decide +kernel
theorem dX1_bring_84 : decode cX1_bring 84 = .ok (.aload_n 0, 1) := by decide +kernel
theorem dX1_bring_85 : decode cX1_bring 85 = .ok (.invokevirtual 104, 3) := by decide +kernel
theorem dX1_bring_88 : decode cX1_bring 88 = .ok (.pop, 1) := by decide +kernel
theorem dX1_bring_89 : decode cX1_bring 89 = .ok (.aload_n 0, 1) := by decide +kernel
theorem dX1_bring_90 : decode cX1_bring 90 = .ok (.iload_n 1, 1) := by decide +kernel
theorem dX1_bring_91 : decode cX1_bring 91 = .ok (.iload_n 2, 1) := by decide +kernel
theorem dX1_bring_92 : decode cX1_bring 92 = .ok (.iconst 1, 1) := by decide +kernel
theorem dX1_bring_93 : decode cX1_bring 93 = .ok (.if_icmp .ne 10, 3) := by decide +kernel
theorem dX1_bring_96 : decode cX1_bring 96 = .ok (.aload_n 0, 1) := by decide +kernel
theorem dX1_bring_97 : decode cX1_bring 97 = .ok (.getfield 12, 3) := by decide +kernel
theorem dX1_bring_100 : decode cX1_bring 100 = .ok (.goto 7, 3) := by decide +kernel
theorem dX1_bring_103 : decode cX1_bring 103 = .ok (.aload_n 0, 1) := by decide +kernel
theorem dX1_bring_104 : decode cX1_bring 104 = .ok (.getfield 18, 3) := by decide +kernel
theorem dX1_bring_107 : decode cX1_bring 107 = .ok (.invokevirtual 107, 3) := by decide +kernel
theorem dX1_bring_110 : decode cX1_bring 110 = .ok (.iload_n 2, 1) := by decide +kernel
theorem dX1_bring_111 : decode cX1_bring 111 = .ok (.ireturn, 1) := by decide +kernel
theorem dX1_bringSeries_0 : decode cX1_bringSeries 0 = .ok (.aload_n 0, 1) := by decide +kernel
theorem dX1_bringSeries_1 : decode cX1_bringSeries 1 = .ok (.getfield 54, 3) := by decide +kernel
theorem dX1_bringSeries_4 : decode cX1_bringSeries 4 = .ok (.istore 4, 2) := by decide +kernel
theorem dX1_bringSeries_6 : decode cX1_bringSeries 6 = .ok (.iconst 0, 1) := by decide +kernel
theorem dX1_bringSeries_7 : decode cX1_bringSeries 7 = .ok (.istore 5, 2) := by decide +kernel
theorem dX1_bringSeries_9 : decode cX1_bringSeries 9 = .ok (.iload 5, 2) := by decide +kernel
theorem dX1_bringSeries_11 : decode cX1_bringSeries 11 = .ok (.iload_n 3, 1) := by decide +kernel
theorem dX1_bringSeries_12 : decode cX1_bringSeries 12 = .ok (.if_icmp .ge 23, 3) := by decide +kernel
theorem dX1_bringSeries_15 : decode cX1_bringSeries 15 = .ok (.aload_n 0, 1) := by decide +kernel
theorem dX1_bringSeries_16 : decode cX1_bringSeries 16 = .ok (.iload_n 1, 1) := by decide +kernel
theorem dX1_bringSeries_17 : decode cX1_bringSeries 17 = .ok (.iload 5, 2) := by decide +kernel
theorem dX1_bringSeries_19 : decode cX1_bringSeries 19 = .ok (.iload_n 2, 1) := by decide +kernel
theorem dX1_bringSeries_20 : decode cX1_bringSeries 20 = .ok (.imul, 1) := by decide +kernel
theorem dX1_bringSeries_21 : decode cX1_bringSeries 21 = .ok (.iadd, 1) := by decide +kernel
theorem dX1_bringSeries_22 : decode cX1_bringSeries 22 = .ok (.bipush 40, 2) := by decide +kernel
theorem dX1_bringSeries_24 : decode cX1_bringSeries 24 = .ok (.irem, 1) := by decide +kernel
theorem dX1_bringSeries_25 : decode cX1_bringSeries 25 = .ok (.invokevirtual 111, 3) := by decide +kernel
theorem dX1_bringSeries_28 : decode cX1_bringSeries 28 = .ok (.pop, 1) := by decide +kernel
theorem dX1_bringSeries_29 : decode cX1_bringSeries 29 = .ok (.iinc 5 1, 3) := by decide +kernel
theorem dX1_bringSeries_32 : decode cX1_bringSeries 32 = .ok (.goto (-23), 3) := by decide +kernel
theorem dX1_bringSeries_35 : decode cX1_bringSeries 35 = .ok (.aload_n 0, 1) := by decide +kernel
theorem dX1_bringSeries_36 : decode cX1_bringSeries 36 = .ok (.getfield 54, 3) := by decide +kernel
theorem dX1_bringSeries_39 : decode cX1_bringSeries 39 = .ok (.iload 4, 2) := by decide +kernel
theorem dX1_bringSeries_41 : decode cX1_bringSeries 41 = .ok (.isub, 1) := by decide +kernel
theorem dX1_bringSeries_42 : decode cX1_bringSeries 42 = .ok (.ireturn, 1) := by decide +kernel
theorem dX1_recall_0 : decode cX1_recall 0 = .ok (.iload_n 2, 1) := by decide +kernel
theorem dX1_recall_1 : decode cX1_recall 1 = .ok (.iconst 2, 1) := by decide +kernel
theorem dX1_recall_2 : decode cX1_recall 2 = .ok (.if_icmp .ne 58, 3) := by decide +kernel
theorem dX1_recall_5 : decode cX1_recall 5 = .ok (.aload_n 0, 1) := by decide +kernel
theorem dX1_recall_6 : decode cX1_recall 6 = .ok (.aload_n 0, 1) := by decide +kernel
theorem dX1_recall_7 : decode cX1_recall 7 = .ok (.getfield 40, 3) := by decide +kernel
theorem dX1_recall_10 : decode cX1_recall 10 = .ok (.aload_n 0, 1) := by decide +kernel
theorem dX1_recall_11 : decode cX1_recall 11 = .ok (.getfield 51, 3) := by decide +kernel
theorem dX1_recall_14 : decode cX1_recall 14 = .ok (.aload_n 0, 1) := by decide +kernel
theorem dX1_recall_15 : decode cX1_recall 15 = .ok (.getfield 24, 3) := by decide +kernel
theorem dX1_recall_18 : decode cX1_recall 18 = .ok (.aload_n 0, 1) := by decide +kernel
theorem dX1_recall_19 : decode cX1_recall 19 = .ok (.getfield 21, 3) := by decide +kernel
theorem dX1_recall_22 : decode cX1_recall 22 = .ok (.invokestatic 114, 3) := by decide +kernel
theorem dX1_recall_25 : decode cX1_recall 25 = .ok (.iadd, 1) := by decide +kernel
theorem dX1_recall_26 : decode cX1_recall 26 = .ok (.invokestatic 118, 3) := by decide +kernel
theorem dX1_recall_29 : decode cX1_recall 29 = .ok (.putfield 51, 3) := by decide +kernel
theorem dX1_recall_32 : decode cX1_recall 32 = .ok (.aload_n 0, 1) := by decide +kernel
theorem dX1_recall_33 : decode cX1_recall 33 = .ok (.getfield 21, 3) := by decide +kernel
theorem dX1_recall_36 : decode cX1_recall 36 = .ok (.aload_n 0, 1) := by decide +kernel
theorem dX1_recall_37 : decode cX1_recall 37 = .ok (.getfield 21, 3) := by decide +kernel
theorem dX1_recall_40 : decode cX1_recall 40 = .ok (.iload_n 1, 1) := by decide +kernel
theorem dX1_recall_41 : decode cX1_recall 41 = .ok (.invokevirtual 124, 3) := by decide +kernel
theorem dX1_recall_44 : decode cX1_recall 44 = .ok (.invokevirtual 127, 3) := by decide +kernel
theorem dX1_recall_47 : decode cX1_recall 47 = .ok (.aload_n 0, 1) := by decide +kernel
theorem dX1_recall_48 : decode cX1_recall 48 = .ok (.dup, 1) := by decide +kernel
theorem dX1_recall_49 : decode cX1_recall 49 = .ok (.getfield 60, 3) := by decide +kernel
theorem dX1_recall_52 : decode cX1_recall 52 = .ok (.iconst 1, 1) := by decide +kernel
theorem dX1_recall_53 : decode cX1_recall 53 = .ok (.iadd, 1) := by decide +kernel
theorem dX1_recall_54 : decode cX1_recall 54 = .ok (.putfield 60, 3) := by decide +kernel
theorem dX1_recall_57 : decode cX1_recall 57 = .ok (.goto 57, 3) := by decide +kernel
theorem dX1_recall_60 : decode cX1_recall 60 = .ok (.iload_n 2, 1) := by decide +kernel
theorem dX1_recall_61 : decode cX1_recall 61 = .ok (.iconst 3, 1) := by decide +kernel
theorem dX1_recall_62 : decode cX1_recall 62 = .ok (.if_icmp .ne 52, 3) := by decide +kernel
theorem dX1_recall_65 : decode cX1_recall 65 = .ok (.aload_n 0, 1) := by decide +kernel
theorem dX1_recall_66 : decode cX1_recall 66 = .ok (.iconst 0, 1) := by decide +kernel
theorem dX1_recall_67 : decode cX1_recall 67 = .ok (.aload_n 0, 1) := by decide +kernel
theorem dX1_recall_68 : decode cX1_recall 68 = .ok (.getfield 51, 3) := by decide +kernel
theorem dX1_recall_71 : decode cX1_recall 71 = .ok (.aload_n 0, 1) := by decide +kernel
theorem dX1_recall_72 : decode cX1_recall 72 = .ok (.getfield 21, 3) := by decide +kernel
theorem dX1_recall_75 : decode cX1_recall 75 = .ok (.aload_n 0, 1) := by decide +kernel
theorem dX1_recall_76 : decode cX1_recall 76 = .ok (.getfield 24, 3) := by decide +kernel
theorem dX1_recall_79 : decode cX1_recall 79 = .ok (.invokestatic 114, 3) := by decide +kernel
theorem dX1_recall_82 : decode cX1_recall 82 = .ok (.isub, 1) := by decide +kernel
theorem dX1_recall_83 : decode cX1_recall 83 = .ok (.invokestatic 131, 3) := by decide +kernel
theorem dX1_recall_86 : decode cX1_recall 86 = .ok (.putfield 51, 3) := by decide +kernel
theorem dX1_recall_89 : decode cX1_recall 89 = .ok (.aload_n 0, 1) := by decide +kernel
theorem dX1_recall_90 : decode cX1_recall 90 = .ok (.getfield 24, 3) := by decide +kernel
theorem dX1_recall_93 : decode cX1_recall 93 = .ok (.aload_n 0, 1) := by decide +kernel
theorem dX1_recall_94 : decode cX1_recall 94 = .ok (.getfield 24, 3) := by decide +kernel
theorem dX1_recall_97 : decode cX1_recall 97 = .ok (.iload_n 1, 1) := by decide +kernel
theorem dX1_recall_98 : decode cX1_recall 98 = .ok (.invokevirtual 124, 3) := by decide +kernel
theorem dX1_recall_101 : decode cX1_recall 101 = .ok (.invokevirtual 127, 3) := by decide +kernel
theorem dX1_recall_104 : decode cX1_recall 104 = .ok (.aload_n 0, 1) := by decide +kernel
theorem dX1_recall_105 : decode cX1_recall 105 = .ok (.dup, 1) := by decide +kernel
theorem dX1_recall_106 : decode cX1_recall 106 = .ok (.getfield 60, 3) := by decide +kernel
theorem dX1_recall_109 : decode cX1_recall 109 = .ok (.iconst 1, 1) := by decide +kernel
theorem dX1_recall_110 : decode cX1_recall 110 = .ok (.iadd, 1) := by decide +kernel
theorem dX1_recall_111 : decode cX1_recall 111 = .ok (.putfield 60, 3) := by decide +kernel
theorem dX1_recall_114 : decode cX1_recall 114 = .ok (.return_, 1) := by decide +kernel
theorem dX1_turn_0 : decode cX1_turn 0 = .ok (.aload_n 1, 1) := by decide +kernel
theorem dX1_turn_1 : decode cX1_turn 1 = .ok (.getfield 70, 3) := by decide +kernel
theorem dX1_turn_4 : decode cX1_turn 4 = .ok (.istore_n 2, 1) := by decide +kernel
theorem dX1_turn_5 : decode cX1_turn 5 = .ok (.iload_n 2, 1) := by decide +kernel
theorem dX1_turn_6 : decode cX1_turn 6 = .ok (.iconst 1, 1) := by decide +kernel
theorem dX1_turn_7 : decode cX1_turn 7 = .ok (.if_icmp .ge 7, 3) := by decide +kernel
theorem dX1_turn_10 : decode cX1_turn 10 = .ok (.iconst 1, 1) := by decide +kernel
theorem dX1_turn_11 : decode cX1_turn 11 = .ok (.goto 13, 3) := by decide +kernel
theorem dX1_turn_14 : decode cX1_turn 14 = .ok (.iconst 1, 1) := by decide +kernel
theorem dX1_turn_15 : decode cX1_turn 15 = .ok (.aload_n 0, 1) := by decide +kernel
theorem dX1_turn_16 : decode cX1_turn 16 = .ok (.getfield 70, 3) := by decide +kernel
theorem dX1_turn_19 : decode cX1_turn 19 = .ok (.iload_n 2, 1) := by decide +kernel
theorem dX1_turn_20 : decode cX1_turn 20 = .ok (.idiv, 1) := by decide +kernel
theorem dX1_turn_21 : decode cX1_turn 21 = .ok (.invokestatic 131, 3) := by decide +kernel
theorem dX1_turn_24 : decode cX1_turn 24 = .ok (.ireturn, 1) := by decide +kernel
theorem dX1_placeNewJar_0 : decode cX1_placeNewJar 0 = .ok (.aload_n 2, 1) := by decide +kernel
theorem dX1_placeNewJar_1 : decode cX1_placeNewJar 1 = .ok (.iload_n 1, 1) := by decide +kernel
theorem dX1_placeNewJar_2 : decode cX1_placeNewJar 2 = .ok (.invokevirtual 134, 3) := by decide +kernel
theorem dX1_placeNewJar_5 : decode cX1_placeNewJar 5 = .ok (.aload_n 0, 1) := by decide +kernel
theorem dX1_placeNewJar_6 : decode cX1_placeNewJar 6 = .ok (.getfield 30, 3) := by decide +kernel
theorem dX1_placeNewJar_9 : decode cX1_placeNewJar 9 = .ok (.iload_n 1, 1) := by decide +kernel
theorem dX1_placeNewJar_10 : decode cX1_placeNewJar 10 = .ok (.iconst 0, 1) := by decide +kernel
theorem dX1_placeNewJar_11 : decode cX1_placeNewJar 11 = .ok (.invokevirtual 97, 3) := by decide +kernel
theorem dX1_placeNewJar_14 : decode cX1_placeNewJar 14 = .ok (.aload_n 0, 1) := by decide +kernel
theorem dX1_placeNewJar_15 : decode cX1_placeNewJar 15 = .ok (.getfield 34, 3) := by decide +kernel
theorem dX1_placeNewJar_18 : decode cX1_placeNewJar 18 = .ok (.iload_n 1, 1) := by decide +kernel
theorem dX1_placeNewJar_19 : decode cX1_placeNewJar 19 = .ok (.iconst 0, 1) := by decide +kernel
theorem dX1_placeNewJar_20 : decode cX1_placeNewJar 20 = .ok (.invokevirtual 97, 3) := by decide +kernel
theorem dX1_placeNewJar_23 : decode cX1_placeNewJar 23 = .ok (.aload_n 0, 1) := by decide +kernel
theorem dX1_placeNewJar_24 : decode cX1_placeNewJar 24 = .ok (.getfield 37, 3) := by decide +kernel
theorem dX1_placeNewJar_27 : decode cX1_placeNewJar 27 = .ok (.iload_n 1, 1) := by decide +kernel
theorem dX1_placeNewJar_28 : decode cX1_placeNewJar 28 = .ok (.iconst 1, 1) := by decide +kernel
theorem dX1_placeNewJar_29 : decode cX1_placeNewJar 29 = .ok (.invokevirtual 97, 3) := by decide +kernel
theorem dX1_placeNewJar_32 : decode cX1_placeNewJar 32 = .ok (.return_, 1) := by decide +kernel
theorem dX1_sweep_0 : decode cX1_sweep 0 = .ok (.aload_n 0, 1) := by decide +kernel
theorem dX1_sweep_1 : decode cX1_sweep 1 = .ok (.invokevirtual 91, 3) := by decide +kernel
theorem dX1_sweep_4 : decode cX1_sweep 4 = .ok (.aload_n 0, 1) := by decide +kernel
theorem dX1_sweep_5 : decode cX1_sweep 5 = .ok (.invokevirtual 87, 3) := by decide +kernel
theorem dX1_sweep_8 : decode cX1_sweep 8 = .ok (.if_icmp .lt 5, 3) := by decide +kernel
theorem dX1_sweep_11 : decode cX1_sweep 11 = .ok (.iconst (-1), 1) := by decide +kernel
theorem dX1_sweep_12 : decode cX1_sweep 12 = .ok (.ireturn, 1) := by decide +kernel
theorem dX1_sweep_13 : decode cX1_sweep 13 = .ok (.iconst 0, 1) := by decide +kernel
theorem dX1_sweep_14 : decode cX1_sweep 14 = .ok (.istore_n 1, 1) := by decide +kernel
theorem dX1_sweep_15 : decode cX1_sweep 15 = .ok (.iload_n 1, 1) := by decide +kernel
theorem dX1_sweep_16 : decode cX1_sweep 16 = .ok (.ldc 137, 2) := by decide +kernel
theorem dX1_sweep_18 : decode cX1_sweep 18 = .ok (.if_icmp .ge 122, 3) := by decide +kernel
theorem dX1_sweep_21 : decode cX1_sweep 21 = .ok (.aload_n 0, 1) := by decide +kernel
theorem dX1_sweep_22 : decode cX1_sweep 22 = .ok (.invokevirtual 138, 3) := by decide +kernel
theorem dX1_sweep_25 : decode cX1_sweep 25 = .ok (.istore_n 2, 1) := by decide +kernel
theorem dX1_sweep_26 : decode cX1_sweep 26 = .ok (.aload_n 0, 1) := by decide +kernel
theorem dX1_sweep_27 : decode cX1_sweep 27 = .ok (.iload_n 2, 1) := by decide +kernel
theorem dX1_sweep_28 : decode cX1_sweep 28 = .ok (.invokevirtual 141, 3) := by decide +kernel
theorem dX1_sweep_31 : decode cX1_sweep 31 = .ok (.astore_n 3, 1) := by decide +kernel
theorem dX1_sweep_32 : decode cX1_sweep 32 = .ok (.aload_n 3, 1) := by decide +kernel
theorem dX1_sweep_33 : decode cX1_sweep 33 = .ok (.iconst 0, 1) := by decide +kernel
theorem dX1_sweep_34 : decode cX1_sweep 34 = .ok (.invokevirtual 77, 3) := by decide +kernel
theorem dX1_sweep_37 : decode cX1_sweep 37 = .ok (.istore 4, 2) := by decide +kernel
theorem dX1_sweep_39 : decode cX1_sweep 39 = .ok (.aload_n 3, 1) := by decide +kernel
theorem dX1_sweep_40 : decode cX1_sweep 40 = .ok (.iconst 0, 1) := by decide +kernel
theorem dX1_sweep_41 : decode cX1_sweep 41 = .ok (.invokevirtual 127, 3) := by decide +kernel
theorem dX1_sweep_44 : decode cX1_sweep 44 = .ok (.aload_n 0, 1) := by decide +kernel
theorem dX1_sweep_45 : decode cX1_sweep 45 = .ok (.dup, 1) := by decide +kernel
theorem dX1_sweep_46 : decode cX1_sweep 46 = .ok (.getfield 63, 3) := by decide +kernel
theorem dX1_sweep_49 : decode cX1_sweep 49 = .ok (.iconst 1, 1) := by decide +kernel
theorem dX1_sweep_50 : decode cX1_sweep 50 = .ok (.iadd, 1) := by decide +kernel
theorem dX1_sweep_51 : decode cX1_sweep 51 = .ok (.putfield 63, 3) := by decide +kernel
theorem dX1_sweep_54 : decode cX1_sweep 54 = .ok (.aload_n 0, 1) := by decide +kernel
theorem dX1_sweep_55 : decode cX1_sweep 55 = .ok (.getfield 34, 3) := by decide +kernel
theorem dX1_sweep_58 : decode cX1_sweep 58 = .ok (.iload 4, 2) := by decide +kernel
theorem dX1_sweep_60 : decode cX1_sweep 60 = .ok (.invokevirtual 81, 3) := by decide +kernel
theorem dX1_sweep_63 : decode cX1_sweep 63 = .ok (.ifCond .le 12, 3) := by decide +kernel
theorem dX1_sweep_66 : decode cX1_sweep 66 = .ok (.aload_n 3, 1) := by decide +kernel
theorem dX1_sweep_67 : decode cX1_sweep 67 = .ok (.iload 4, 2) := by decide +kernel
theorem dX1_sweep_69 : decode cX1_sweep 69 = .ok (.invokevirtual 134, 3) := by decide +kernel
theorem dX1_sweep_72 : decode cX1_sweep 72 = .ok (.goto 62, 3) := by decide +kernel
theorem dX1_sweep_75 : decode cX1_sweep 75 = .ok (.aload_n 0, 1) := by decide +kernel
theorem dX1_sweep_76 : decode cX1_sweep 76 = .ok (.getfield 30, 3) := by decide +kernel
theorem dX1_sweep_79 : decode cX1_sweep 79 = .ok (.iload 4, 2) := by decide +kernel
theorem dX1_sweep_81 : decode cX1_sweep 81 = .ok (.invokevirtual 81, 3) := by decide +kernel
theorem dX1_sweep_84 : decode cX1_sweep 84 = .ok (.ifCond .le 25, 3) := by decide +kernel
theorem dX1_sweep_87 : decode cX1_sweep 87 = .ok (.aload_n 0, 1) := by decide +kernel
theorem dX1_sweep_88 : decode cX1_sweep 88 = .ok (.getfield 30, 3) := by decide +kernel
theorem dX1_sweep_91 : decode cX1_sweep 91 = .ok (.iload 4, 2) := by decide +kernel
theorem dX1_sweep_93 : decode cX1_sweep 93 = .ok (.iconst 0, 1) := by decide +kernel
theorem dX1_sweep_94 : decode cX1_sweep 94 = .ok (.invokevirtual 97, 3) := by decide +kernel
theorem dX1_sweep_97 : decode cX1_sweep 97 = .ok (.aload_n 0, 1) := by decide +kernel
theorem dX1_sweep_98 : decode cX1_sweep 98 = .ok (.getfield 18, 3) := by decide +kernel
theorem dX1_sweep_101 : decode cX1_sweep 101 = .ok (.iload 4, 2) := by decide +kernel
theorem dX1_sweep_103 : decode cX1_sweep 103 = .ok (.invokevirtual 134, 3) := by decide +kernel
theorem dX1_sweep_106 : decode cX1_sweep 106 = .ok (.goto 28, 3) := by decide +kernel
theorem dX1_sweep_109 : decode cX1_sweep 109 = .ok (.aload_n 0, 1) := by decide +kernel
theorem dX1_sweep_110 : decode cX1_sweep 110 = .ok (.iload_n 2, 1) := by decide +kernel
theorem dX1_sweep_111 : decode cX1_sweep 111 = .ok (.invokevirtual 145, 3) := by decide +kernel
theorem dX1_sweep_114 : decode cX1_sweep 114 = .ok (.iload 4, 2) := by decide +kernel
theorem dX1_sweep_116 : decode cX1_sweep 116 = .ok (.invokevirtual 134, 3) := by decide +kernel
theorem dX1_sweep_119 : decode cX1_sweep 119 = .ok (.aload_n 0, 1) := by decide +kernel
theorem dX1_sweep_120 : decode cX1_sweep 120 = .ok (.iload_n 2, 1) := by decide +kernel
theorem dX1_sweep_121 : decode cX1_sweep 121 = .ok (.invokevirtual 145, 3) := by decide +kernel
theorem dX1_sweep_124 : decode cX1_sweep 124 = .ok (.aload_n 0, 1) := by decide +kernel
theorem dX1_sweep_125 : decode cX1_sweep 125 = .ok (.getfield 40, 3) := by decide +kernel
theorem dX1_sweep_128 : decode cX1_sweep 128 = .ok (.invokevirtual 148, 3) := by decide +kernel
theorem dX1_sweep_131 : decode cX1_sweep 131 = .ok (.iload 4, 2) := by decide +kernel
theorem dX1_sweep_133 : decode cX1_sweep 133 = .ok (.ireturn, 1) := by decide +kernel
theorem dX1_sweep_134 : decode cX1_sweep 134 = .ok (.iinc 1 1, 3) := by decide +kernel
theorem dX1_sweep_137 : decode cX1_sweep 137 = .ok (.goto (-122), 3) := by decide +kernel
theorem dX1_sweep_140 : decode cX1_sweep 140 = .ok (.iconst (-1), 1) := by decide +kernel
theorem dX1_sweep_141 : decode cX1_sweep 141 = .ok (.ireturn, 1) := by decide +kernel
theorem dX1_givingShelf_0 : decode cX1_givingShelf 0 = .ok (.aload_n 0, 1) := by decide +kernel
theorem dX1_givingShelf_1 : decode cX1_givingShelf 1 = .ok (.aload_n 0, 1) := by decide +kernel
theorem dX1_givingShelf_2 : decode cX1_givingShelf 2 = .ok (.getfield 12, 3) := by decide +kernel
theorem dX1_givingShelf_5 : decode cX1_givingShelf 5 = .ok (.invokevirtual 73, 3) := by decide +kernel
theorem dX1_givingShelf_8 : decode cX1_givingShelf 8 = .ok (.aload_n 0, 1) := by decide +kernel
theorem dX1_givingShelf_9 : decode cX1_givingShelf 9 = .ok (.getfield 12, 3) := by decide +kernel
theorem dX1_givingShelf_12 : decode cX1_givingShelf 12 = .ok (.getfield 70, 3) := by decide +kernel
theorem dX1_givingShelf_15 : decode cX1_givingShelf 15 = .ok (.if_icmp .ge 7, 3) := by decide +kernel
theorem dX1_givingShelf_18 : decode cX1_givingShelf 18 = .ok (.iconst 1, 1) := by decide +kernel
theorem dX1_givingShelf_19 : decode cX1_givingShelf 19 = .ok (.goto 4, 3) := by decide +kernel
theorem dX1_givingShelf_22 : decode cX1_givingShelf 22 = .ok (.iconst 0, 1) := by decide +kernel
theorem dX1_givingShelf_23 : decode cX1_givingShelf 23 = .ok (.istore_n 1, 1) := by decide +kernel
theorem dX1_givingShelf_24 : decode cX1_givingShelf 24 = .ok (.aload_n 0, 1) := by decide +kernel
theorem dX1_givingShelf_25 : decode cX1_givingShelf 25 = .ok (.getfield 12, 3) := by decide +kernel
theorem dX1_givingShelf_28 : decode cX1_givingShelf 28 = .ok (.getfield 70, 3) := by decide +kernel
theorem dX1_givingShelf_31 : decode cX1_givingShelf 31 = .ok (.iconst 1, 1) := by decide +kernel
theorem dX1_givingShelf_32 : decode cX1_givingShelf 32 = .ok (.aload_n 0, 1) := by decide +kernel
theorem dX1_givingShelf_33 : decode cX1_givingShelf 33 = .ok (.getfield 51, 3) := by decide +kernel
theorem dX1_givingShelf_36 : decode cX1_givingShelf 36 = .ok (.invokestatic 131, 3) := by decide +kernel
theorem dX1_givingShelf_39 : decode cX1_givingShelf 39 = .ok (.if_icmp .lt 7, 3) := by decide +kernel
theorem dX1_givingShelf_42 : decode cX1_givingShelf 42 = .ok (.iconst 1, 1) := by decide +kernel
theorem dX1_givingShelf_43 : decode cX1_givingShelf 43 = .ok (.goto 4, 3) := by decide +kernel
theorem dX1_givingShelf_46 : decode cX1_givingShelf 46 = .ok (.iconst 0, 1) := by decide +kernel
theorem dX1_givingShelf_47 : decode cX1_givingShelf 47 = .ok (.istore_n 2, 1) := by decide +kernel
theorem dX1_givingShelf_48 : decode cX1_givingShelf 48 = .ok (.aload_n 0, 1) := by decide +kernel
theorem dX1_givingShelf_49 : decode cX1_givingShelf 49 = .ok (.aload_n 0, 1) := by decide +kernel
theorem dX1_givingShelf_50 : decode cX1_givingShelf 50 = .ok (.getfield 18, 3) := by decide +kernel
theorem dX1_givingShelf_53 : decode cX1_givingShelf 53 = .ok (.invokevirtual 73, 3) := by decide +kernel
theorem dX1_givingShelf_56 : decode cX1_givingShelf 56 = .ok (.aload_n 0, 1) := by decide +kernel
theorem dX1_givingShelf_57 : decode cX1_givingShelf 57 = .ok (.getfield 18, 3) := by decide +kernel
theorem dX1_givingShelf_60 : decode cX1_givingShelf 60 = .ok (.getfield 70, 3) := by decide +kernel
theorem dX1_givingShelf_63 : decode cX1_givingShelf 63 = .ok (.if_icmp .lt 7, 3) := by decide +kernel
theorem dX1_givingShelf_66 : decode cX1_givingShelf 66 = .ok (.iconst 1, 1) := by decide +kernel
theorem dX1_givingShelf_67 : decode cX1_givingShelf 67 = .ok (.goto 4, 3) := by decide +kernel
theorem dX1_givingShelf_70 : decode cX1_givingShelf 70 = .ok (.iconst 0, 1) := by decide +kernel
theorem dX1_givingShelf_71 : decode cX1_givingShelf 71 = .ok (.istore_n 3, 1) := by decide +kernel
theorem dX1_givingShelf_72 : decode cX1_givingShelf 72 = .ok (.iload_n 1, 1) := by decide +kernel
theorem dX1_givingShelf_73 : decode cX1_givingShelf 73 = .ok (.ifCond .eq 15, 3) := by decide +kernel
theorem dX1_givingShelf_76 : decode cX1_givingShelf 76 = .ok (.iload_n 2, 1) := by decide +kernel
theorem dX1_givingShelf_77 : decode cX1_givingShelf 77 = .ok (.ifCond .ne 7, 3) := by decide +kernel
theorem dX1_givingShelf_80 : decode cX1_givingShelf 80 = .ok (.iload_n 3, 1) := by decide +kernel
theorem dX1_givingShelf_81 : decode cX1_givingShelf 81 = .ok (.ifCond .eq 7, 3) := by decide +kernel
theorem dX1_givingShelf_84 : decode cX1_givingShelf 84 = .ok (.iconst 0, 1) := by decide +kernel
theorem dX1_givingShelf_85 : decode cX1_givingShelf 85 = .ok (.goto 4, 3) := by decide +kernel
theorem dX1_givingShelf_88 : decode cX1_givingShelf 88 = .ok (.iconst 1, 1) := by decide +kernel
theorem dX1_givingShelf_89 : decode cX1_givingShelf 89 = .ok (.ireturn, 1) := by decide +kernel
theorem dX1_changePins_0 : decode cX1_changePins 0 = .ok (.aload_n 0, 1) := by decide +kernel
theorem dX1_changePins_1 : decode cX1_changePins 1 = .ok (.getfield 34, 3) := by decide +kernel
theorem dX1_changePins_4 : decode cX1_changePins 4 = .ok (.iload_n 1, 1) := by decide +kernel
theorem dX1_changePins_5 : decode cX1_changePins 5 = .ok (.aload_n 0, 1) := by decide +kernel
theorem dX1_changePins_6 : decode cX1_changePins 6 = .ok (.getfield 34, 3) := by decide +kernel
theorem dX1_changePins_9 : decode cX1_changePins 9 = .ok (.iload_n 1, 1) := by decide +kernel
theorem dX1_changePins_10 : decode cX1_changePins 10 = .ok (.invokevirtual 81, 3) := by decide +kernel
theorem dX1_changePins_13 : decode cX1_changePins 13 = .ok (.iload_n 2, 1) := by decide +kernel
theorem dX1_changePins_14 : decode cX1_changePins 14 = .ok (.iadd, 1) := by decide +kernel
theorem dX1_changePins_15 : decode cX1_changePins 15 = .ok (.invokevirtual 97, 3) := by decide +kernel
theorem dX1_changePins_18 : decode cX1_changePins 18 = .ok (.aload_n 0, 1) := by decide +kernel
theorem dX1_changePins_19 : decode cX1_changePins 19 = .ok (.getfield 34, 3) := by decide +kernel
theorem dX1_changePins_22 : decode cX1_changePins 22 = .ok (.iload_n 1, 1) := by decide +kernel
theorem dX1_changePins_23 : decode cX1_changePins 23 = .ok (.invokevirtual 81, 3) := by decide +kernel
theorem dX1_changePins_26 : decode cX1_changePins 26 = .ok (.ireturn, 1) := by decide +kernel
theorem dX1_remove_0 : decode cX1_remove 0 = .ok (.aload_n 0, 1) := by decide +kernel
theorem dX1_remove_1 : decode cX1_remove 1 = .ok (.getfield 12, 3) := by decide +kernel
theorem dX1_remove_4 : decode cX1_remove 4 = .ok (.aload_n 0, 1) := by decide +kernel
theorem dX1_remove_5 : decode cX1_remove 5 = .ok (.getfield 12, 3) := by decide +kernel
theorem dX1_remove_8 : decode cX1_remove 8 = .ok (.iload_n 1, 1) := by decide +kernel
theorem dX1_remove_9 : decode cX1_remove 9 = .ok (.invokevirtual 124, 3) := by decide +kernel
theorem dX1_remove_12 : decode cX1_remove 12 = .ok (.invokevirtual 127, 3) := by decide +kernel
theorem dX1_remove_15 : decode cX1_remove 15 = .ok (.aload_n 0, 1) := by decide +kernel
theorem dX1_remove_16 : decode cX1_remove 16 = .ok (.getfield 18, 3) := by decide +kernel
theorem dX1_remove_19 : decode cX1_remove 19 = .ok (.aload_n 0, 1) := by decide +kernel
theorem dX1_remove_20 : decode cX1_remove 20 = .ok (.getfield 18, 3) := by decide +kernel
theorem dX1_remove_23 : decode cX1_remove 23 = .ok (.iload_n 1, 1) := by decide +kernel
theorem dX1_remove_24 : decode cX1_remove 24 = .ok (.invokevirtual 124, 3) := by decide +kernel
theorem dX1_remove_27 : decode cX1_remove 27 = .ok (.invokevirtual 127, 3) := by decide +kernel
theorem dX1_remove_30 : decode cX1_remove 30 = .ok (.aload_n 0, 1) := by decide +kernel
theorem dX1_remove_31 : decode cX1_remove 31 = .ok (.getfield 37, 3) := by decide +kernel
theorem dX1_remove_34 : decode cX1_remove 34 = .ok (.iload_n 1, 1) := by decide +kernel
theorem dX1_remove_35 : decode cX1_remove 35 = .ok (.invokevirtual 81, 3) := by decide +kernel
theorem dX1_remove_38 : decode cX1_remove 38 = .ok (.ireturn, 1) := by decide +kernel
theorem dX1_resize_0 : decode cX1_resize 0 = .ok (.aload_n 0, 1) := by decide +kernel
theorem dX1_resize_1 : decode cX1_resize 1 = .ok (.iload_n 1, 1) := by decide +kernel
theorem dX1_resize_2 : decode cX1_resize 2 = .ok (.putfield 40, 3) := by decide +kernel
theorem dX1_resize_5 : decode cX1_resize 5 = .ok (.aload_n 0, 1) := by decide +kernel
theorem dX1_resize_6 : decode cX1_resize 6 = .ok (.invokevirtual 87, 3) := by decide +kernel
theorem dX1_resize_9 : decode cX1_resize 9 = .ok (.aload_n 0, 1) := by decide +kernel
theorem dX1_resize_10 : decode cX1_resize 10 = .ok (.getfield 40, 3) := by decide +kernel
theorem dX1_resize_13 : decode cX1_resize 13 = .ok (.isub, 1) := by decide +kernel
theorem dX1_resize_14 : decode cX1_resize 14 = .ok (.istore_n 2, 1) := by decide +kernel
theorem dX1_resize_15 : decode cX1_resize 15 = .ok (.iload_n 2, 1) := by decide +kernel
theorem dX1_resize_16 : decode cX1_resize 16 = .ok (.ifCond .le 14, 3) := by decide +kernel
theorem dX1_resize_19 : decode cX1_resize 19 = .ok (.aload_n 0, 1) := by decide +kernel
theorem dX1_resize_20 : decode cX1_resize 20 = .ok (.invokevirtual 104, 3) := by decide +kernel
theorem dX1_resize_23 : decode cX1_resize 23 = .ok (.pop, 1) := by decide +kernel
theorem dX1_resize_24 : decode cX1_resize 24 = .ok (.iinc 2 (-1), 3) := by decide +kernel
theorem dX1_resize_27 : decode cX1_resize 27 = .ok (.goto (-12), 3) := by decide +kernel
theorem dX1_resize_30 : decode cX1_resize 30 = .ok (.aload_n 0, 1) := by decide +kernel
theorem dX1_resize_31 : decode cX1_resize 31 = .ok (.aload_n 0, 1) := by decide +kernel
theorem dX1_resize_32 : decode cX1_resize 32 = .ok (.getfield 51, 3) := by decide +kernel
theorem dX1_resize_35 : decode cX1_resize 35 = .ok (.aload_n 0, 1) := by decide +kernel
theorem dX1_resize_36 : decode cX1_resize 36 = .ok (.getfield 40, 3) := by decide +kernel
theorem dX1_resize_39 : decode cX1_resize 39 = .ok (.invokestatic 118, 3) := by decide +kernel
theorem dX1_resize_42 : decode cX1_resize 42 = .ok (.putfield 51, 3) := by decide +kernel
theorem dX1_resize_45 : decode cX1_resize 45 = .ok (.aload_n 0, 1) := by decide +kernel
theorem dX1_resize_46 : decode cX1_resize 46 = .ok (.getfield 21, 3) := by decide +kernel
theorem dX1_resize_49 : decode cX1_resize 49 = .ok (.aload_n 0, 1) := by decide +kernel
theorem dX1_resize_50 : decode cX1_resize 50 = .ok (.getfield 40, 3) := by decide +kernel
theorem dX1_resize_53 : decode cX1_resize 53 = .ok (.invokevirtual 148, 3) := by decide +kernel
theorem dX1_resize_56 : decode cX1_resize 56 = .ok (.aload_n 0, 1) := by decide +kernel
theorem dX1_resize_57 : decode cX1_resize 57 = .ok (.getfield 24, 3) := by decide +kernel
theorem dX1_resize_60 : decode cX1_resize 60 = .ok (.aload_n 0, 1) := by decide +kernel
theorem dX1_resize_61 : decode cX1_resize 61 = .ok (.getfield 40, 3) := by decide +kernel
theorem dX1_resize_64 : decode cX1_resize 64 = .ok (.invokevirtual 148, 3) := by decide +kernel
theorem dX1_resize_67 : decode cX1_resize 67 = .ok (.return_, 1) := by decide +kernel
theorem dX1_detail_0 : decode cX1_detail 0 = .ok (.aload_n 0, 1) := by decide +kernel
theorem dX1_detail_1 : decode cX1_detail 1 = .ok (.getfield 12, 3) := by decide +kernel
theorem dX1_detail_4 : decode cX1_detail 4 = .ok (.iload_n 1, 1) := by decide +kernel
theorem dX1_detail_5 : decode cX1_detail 5 = .ok (.invokevirtual 66, 3) := by decide +kernel
theorem dX1_detail_8 : decode cX1_detail 8 = .ok (.ifCond .eq 7, 3) := by decide +kernel
theorem dX1_detail_11 : decode cX1_detail 11 = .ok (.iconst 0, 1) := by decide +kernel
theorem dX1_detail_12 : decode cX1_detail 12 = .ok (.goto 4, 3) := by decide +kernel
theorem dX1_detail_15 : decode cX1_detail 15 = .ok (.iconst 1, 1) := by decide +kernel
theorem dX1_detail_16 : decode cX1_detail 16 = .ok (.istore_n 3, 1) := by decide +kernel
theorem dX1_detail_17 : decode cX1_detail 17 = .ok (.aload_n 0, 1) := by decide +kernel
theorem dX1_detail_18 : decode cX1_detail 18 = .ok (.iload_n 3, 1) := by decide +kernel
theorem dX1_detail_19 : decode cX1_detail 19 = .ok (.invokevirtual 141, 3) := by decide +kernel
theorem dX1_detail_22 : decode cX1_detail 22 = .ok (.iload_n 1, 1) := by decide +kernel
theorem dX1_detail_23 : decode cX1_detail 23 = .ok (.invokevirtual 124, 3) := by decide +kernel
theorem dX1_detail_26 : decode cX1_detail 26 = .ok (.istore 4, 2) := by decide +kernel
theorem dX1_detail_28 : decode cX1_detail 28 = .ok (.iload 4, 2) := by decide +kernel
theorem dX1_detail_30 : decode cX1_detail 30 = .ok (.iconst (-1), 1) := by decide +kernel
theorem dX1_detail_31 : decode cX1_detail 31 = .ok (.if_icmp .ne 5, 3) := by decide +kernel
theorem dX1_detail_34 : decode cX1_detail 34 = .ok (.iconst (-1), 1) := by decide +kernel
theorem dX1_detail_35 : decode cX1_detail 35 = .ok (.ireturn, 1) := by decide +kernel
theorem dX1_detail_36 : decode cX1_detail 36 = .ok (.iload_n 2, 1) := by decide +kernel
theorem dX1_detail_37 : decode cX1_detail 37 = .ok (.tableswitch 54 0 3 #[31, 33, 36, 45], 31) := by decide +kernel
theorem dX1_detail_68 : decode cX1_detail 68 = .ok (.iload_n 3, 1) := by decide +kernel
theorem dX1_detail_69 : decode cX1_detail 69 = .ok (.ireturn, 1) := by decide +kernel
theorem dX1_detail_70 : decode cX1_detail 70 = .ok (.iload 4, 2) := by decide +kernel
theorem dX1_detail_72 : decode cX1_detail 72 = .ok (.ireturn, 1) := by decide +kernel
theorem dX1_detail_73 : decode cX1_detail 73 = .ok (.aload_n 0, 1) := by decide +kernel
theorem dX1_detail_74 : decode cX1_detail 74 = .ok (.getfield 30, 3) := by decide +kernel
theorem dX1_detail_77 : decode cX1_detail 77 = .ok (.iload_n 1, 1) := by decide +kernel
theorem dX1_detail_78 : decode cX1_detail 78 = .ok (.invokevirtual 81, 3) := by decide +kernel
theorem dX1_detail_81 : decode cX1_detail 81 = .ok (.ireturn, 1) := by decide +kernel
theorem dX1_detail_82 : decode cX1_detail 82 = .ok (.aload_n 0, 1) := by decide +kernel
theorem dX1_detail_83 : decode cX1_detail 83 = .ok (.getfield 34, 3) := by decide +kernel
theorem dX1_detail_86 : decode cX1_detail 86 = .ok (.iload_n 1, 1) := by decide +kernel
theorem dX1_detail_87 : decode cX1_detail 87 = .ok (.invokevirtual 81, 3) := by decide +kernel
theorem dX1_detail_90 : decode cX1_detail 90 = .ok (.ireturn, 1) := by decide +kernel
theorem dX1_detail_91 : decode cX1_detail 91 = .ok (.aload_n 0, 1) := by decide +kernel
theorem dX1_detail_92 : decode cX1_detail 92 = .ok (.getfield 37, 3) := by decide +kernel
theorem dX1_detail_95 : decode cX1_detail 95 = .ok (.iload_n 1, 1) := by decide +kernel
theorem dX1_detail_96 : decode cX1_detail 96 = .ok (.invokevirtual 81, 3) := by decide +kernel
theorem dX1_detail_99 : decode cX1_detail 99 = .ok (.ireturn, 1) := by decide +kernel
theorem dX1_tally_0 : decode cX1_tally 0 = .ok (.iload_n 1, 1) := by decide +kernel
theorem dX1_tally_1 : decode cX1_tally 1 = .ok (.tableswitch 117 0 9 #[55, 60, 68, 76, 84, 92, 97, 102, 107, 112], 55) := by decide +kernel
theorem dX1_tally_56 : decode cX1_tally 56 = .ok (.aload_n 0, 1) := by decide +kernel
theorem dX1_tally_57 : decode cX1_tally 57 = .ok (.getfield 40, 3) := by decide +kernel
theorem dX1_tally_60 : decode cX1_tally 60 = .ok (.ireturn, 1) := by decide +kernel
theorem dX1_tally_61 : decode cX1_tally 61 = .ok (.aload_n 0, 1) := by decide +kernel
theorem dX1_tally_62 : decode cX1_tally 62 = .ok (.getfield 12, 3) := by decide +kernel
theorem dX1_tally_65 : decode cX1_tally 65 = .ok (.getfield 70, 3) := by decide +kernel
theorem dX1_tally_68 : decode cX1_tally 68 = .ok (.ireturn, 1) := by decide +kernel
theorem dX1_tally_69 : decode cX1_tally 69 = .ok (.aload_n 0, 1) := by decide +kernel
theorem dX1_tally_70 : decode cX1_tally 70 = .ok (.getfield 18, 3) := by decide +kernel
theorem dX1_tally_73 : decode cX1_tally 73 = .ok (.getfield 70, 3) := by decide +kernel
theorem dX1_tally_76 : decode cX1_tally 76 = .ok (.ireturn, 1) := by decide +kernel
theorem dX1_tally_77 : decode cX1_tally 77 = .ok (.aload_n 0, 1) := by decide +kernel
theorem dX1_tally_78 : decode cX1_tally 78 = .ok (.getfield 21, 3) := by decide +kernel
theorem dX1_tally_81 : decode cX1_tally 81 = .ok (.getfield 70, 3) := by decide +kernel
theorem dX1_tally_84 : decode cX1_tally 84 = .ok (.ireturn, 1) := by decide +kernel
theorem dX1_tally_85 : decode cX1_tally 85 = .ok (.aload_n 0, 1) := by decide +kernel
theorem dX1_tally_86 : decode cX1_tally 86 = .ok (.getfield 24, 3) := by decide +kernel
theorem dX1_tally_89 : decode cX1_tally 89 = .ok (.getfield 70, 3) := by decide +kernel
theorem dX1_tally_92 : decode cX1_tally 92 = .ok (.ireturn, 1) := by decide +kernel
theorem dX1_tally_93 : decode cX1_tally 93 = .ok (.aload_n 0, 1) := by decide +kernel
theorem dX1_tally_94 : decode cX1_tally 94 = .ok (.getfield 51, 3) := by decide +kernel
theorem dX1_tally_97 : decode cX1_tally 97 = .ok (.ireturn, 1) := by decide +kernel
theorem dX1_tally_98 : decode cX1_tally 98 = .ok (.aload_n 0, 1) := by decide +kernel
theorem dX1_tally_99 : decode cX1_tally 99 = .ok (.getfield 54, 3) := by decide +kernel
theorem dX1_tally_102 : decode cX1_tally 102 = .ok (.ireturn, 1) := by decide +kernel
theorem dX1_tally_103 : decode cX1_tally 103 = .ok (.aload_n 0, 1) := by decide +kernel
theorem dX1_tally_104 : decode cX1_tally 104 = .ok (.getfield 57, 3) := by decide +kernel
theorem dX1_tally_107 : decode cX1_tally 107 = .ok (.ireturn, 1) := by decide +kernel
theorem dX1_tally_108 : decode cX1_tally 108 = .ok (.aload_n 0, 1) := by decide +kernel
theorem dX1_tally_109 : decode cX1_tally 109 = .ok (.getfield 60, 3) := by decide +kernel
theorem dX1_tally_112 : decode cX1_tally 112 = .ok (.ireturn, 1) := by decide +kernel
theorem dX1_tally_113 : decode cX1_tally 113 = .ok (.aload_n 0, 1) := by decide +kernel
theorem dX1_tally_114 : decode cX1_tally 114 = .ok (.getfield 63, 3) := by decide +kernel
theorem dX1_tally_117 : decode cX1_tally 117 = .ok (.ireturn, 1) := by decide +kernel
theorem dX1_tally_118 : decode cX1_tally 118 = .ok (.aload_n 0, 1) := by decide +kernel
theorem dX1_tally_119 : decode cX1_tally 119 = .ok (.invokevirtual 91, 3) := by decide +kernel
theorem dX1_tally_122 : decode cX1_tally 122 = .ok (.ireturn, 1) := by decide +kernel
theorem dX1_fetchesOfAll_0 : decode cX1_fetchesOfAll 0 = .ok (.iconst 0, 1) := by decide +kernel
theorem dX1_fetchesOfAll_1 : decode cX1_fetchesOfAll 1 = .ok (.istore_n 1, 1) := by decide +kernel
theorem dX1_fetchesOfAll_2 : decode cX1_fetchesOfAll 2 = .ok (.iconst 0, 1) := by decide +kernel
theorem dX1_fetchesOfAll_3 : decode cX1_fetchesOfAll 3 = .ok (.istore_n 2, 1) := by decide +kernel
theorem dX1_fetchesOfAll_4 : decode cX1_fetchesOfAll 4 = .ok (.iload_n 2, 1) := by decide +kernel
theorem dX1_fetchesOfAll_5 : decode cX1_fetchesOfAll 5 = .ok (.bipush 40, 2) := by decide +kernel
theorem dX1_fetchesOfAll_7 : decode cX1_fetchesOfAll 7 = .ok (.if_icmp .ge 28, 3) := by decide +kernel
theorem dX1_fetchesOfAll_10 : decode cX1_fetchesOfAll 10 = .ok (.aload_n 0, 1) := by decide +kernel
theorem dX1_fetchesOfAll_11 : decode cX1_fetchesOfAll 11 = .ok (.iload_n 2, 1) := by decide +kernel
theorem dX1_fetchesOfAll_12 : decode cX1_fetchesOfAll 12 = .ok (.invokevirtual 84, 3) := by decide +kernel
theorem dX1_fetchesOfAll_15 : decode cX1_fetchesOfAll 15 = .ok (.ifCond .eq 14, 3) := by decide +kernel
theorem dX1_fetchesOfAll_18 : decode cX1_fetchesOfAll 18 = .ok (.iload_n 1, 1) := by decide +kernel
theorem dX1_fetchesOfAll_19 : decode cX1_fetchesOfAll 19 = .ok (.aload_n 0, 1) := by decide +kernel
theorem dX1_fetchesOfAll_20 : decode cX1_fetchesOfAll 20 = .ok (.getfield 37, 3) := by decide +kernel
theorem dX1_fetchesOfAll_23 : decode cX1_fetchesOfAll 23 = .ok (.iload_n 2, 1) := by decide +kernel
theorem dX1_fetchesOfAll_24 : decode cX1_fetchesOfAll 24 = .ok (.invokevirtual 81, 3) := by decide +kernel
theorem dX1_fetchesOfAll_27 : decode cX1_fetchesOfAll 27 = .ok (.iadd, 1) := by decide +kernel
theorem dX1_fetchesOfAll_28 : decode cX1_fetchesOfAll 28 = .ok (.istore_n 1, 1) := by decide +kernel
theorem dX1_fetchesOfAll_29 : decode cX1_fetchesOfAll 29 = .ok (.iinc 2 1, 3) := by decide +kernel
theorem dX1_fetchesOfAll_32 : decode cX1_fetchesOfAll 32 = .ok (.goto (-28), 3) := by decide +kernel
theorem dX1_fetchesOfAll_35 : decode cX1_fetchesOfAll 35 = .ok (.iload_n 1, 1) := by decide +kernel
theorem dX1_fetchesOfAll_36 : decode cX1_fetchesOfAll 36 = .ok (.ireturn, 1) := by decide +kernel
theorem dX2_init_0 : decode cX2_init 0 = .ok (.aload_n 0, 1) := by decide +kernel
theorem dX2_init_1 : decode cX2_init 1 = .ok (.invokespecial 3, 3) := by decide +kernel
theorem dX2_init_4 : decode cX2_init 4 = .ok (.aload_n 0, 1) := by decide +kernel
theorem dX2_init_5 : decode cX2_init 5 = .ok (.bipush 40, 2) := by decide +kernel
theorem dX2_init_7 : decode cX2_init 7 = .ok (.newarray .int, 2) := by decide +kernel
theorem dX2_init_9 : decode cX2_init 9 = .ok (.putfield 9, 3) := by decide +kernel
theorem dX2_init_12 : decode cX2_init 12 = .ok (.return_, 1) := by decide +kernel
theorem dX2_become_0 : decode cX2_become 0 = .ok (.iconst 0, 1) := by decide +kernel
theorem dX2_become_1 : decode cX2_become 1 = .ok (.istore_n 2, 1) := by decide +kernel
theorem dX2_become_2 : decode cX2_become 2 = .ok (.iload_n 2, 1) := by decide +kernel
theorem dX2_become_3 : decode cX2_become 3 = .ok (.aload_n 0, 1) := by decide +kernel
theorem dX2_become_4 : decode cX2_become 4 = .ok (.getfield 9, 3) := by decide +kernel
theorem dX2_become_7 : decode cX2_become 7 = .ok (.arraylength, 1) := by decide +kernel
theorem dX2_become_8 : decode cX2_become 8 = .ok (.if_icmp .ge 30, 3) := by decide +kernel
theorem dX2_become_11 : decode cX2_become 11 = .ok (.iload_n 2, 1) := by decide +kernel
theorem dX2_become_12 : decode cX2_become 12 = .ok (.aload_n 1, 1) := by decide +kernel
theorem dX2_become_13 : decode cX2_become 13 = .ok (.getfield 9, 3) := by decide +kernel
theorem dX2_become_16 : decode cX2_become 16 = .ok (.arraylength, 1) := by decide +kernel
theorem dX2_become_17 : decode cX2_become 17 = .ok (.if_icmp .ge 21, 3) := by decide +kernel
theorem dX2_become_20 : decode cX2_become 20 = .ok (.aload_n 0, 1) := by decide +kernel
theorem dX2_become_21 : decode cX2_become 21 = .ok (.getfield 9, 3) := by decide +kernel
theorem dX2_become_24 : decode cX2_become 24 = .ok (.iload_n 2, 1) := by decide +kernel
theorem dX2_become_25 : decode cX2_become 25 = .ok (.aload_n 1, 1) := by decide +kernel
theorem dX2_become_26 : decode cX2_become 26 = .ok (.getfield 9, 3) := by decide +kernel
theorem dX2_become_29 : decode cX2_become 29 = .ok (.iload_n 2, 1) := by decide +kernel
theorem dX2_become_30 : decode cX2_become 30 = .ok (.iaload, 1) := by decide +kernel
theorem dX2_become_31 : decode cX2_become 31 = .ok (.iastore, 1) := by decide +kernel
theorem dX2_become_32 : decode cX2_become 32 = .ok (.iinc 2 1, 3) := by decide +kernel
theorem dX2_become_35 : decode cX2_become 35 = .ok (.goto (-33), 3) := by decide +kernel
theorem dX2_become_38 : decode cX2_become 38 = .ok (.return_, 1) := by decide +kernel
theorem dX2_of_0 : decode cX2_of 0 = .ok (.iload_n 1, 1) := by decide +kernel
theorem dX2_of_1 : decode cX2_of 1 = .ok (.ifCond .lt 21, 3) := by decide +kernel
theorem dX2_of_4 : decode cX2_of 4 = .ok (.iload_n 1, 1) := by decide +kernel
theorem dX2_of_5 : decode cX2_of 5 = .ok (.aload_n 0, 1) := by decide +kernel
theorem dX2_of_6 : decode cX2_of 6 = .ok (.getfield 9, 3) := by decide +kernel
theorem dX2_of_9 : decode cX2_of 9 = .ok (.arraylength, 1) := by decide +kernel
theorem dX2_of_10 : decode cX2_of 10 = .ok (.if_icmp .ge 12, 3) := by decide +kernel
theorem dX2_of_13 : decode cX2_of 13 = .ok (.aload_n 0, 1) := by decide +kernel
theorem dX2_of_14 : decode cX2_of 14 = .ok (.getfield 9, 3) := by decide +kernel
theorem dX2_of_17 : decode cX2_of 17 = .ok (.iload_n 1, 1) := by decide +kernel
theorem dX2_of_18 : decode cX2_of 18 = .ok (.iaload, 1) := by decide +kernel
theorem dX2_of_19 : decode cX2_of 19 = .ok (.goto 4, 3) := by decide +kernel
theorem dX2_of_22 : decode cX2_of 22 = .ok (.iconst 0, 1) := by decide +kernel
theorem dX2_of_23 : decode cX2_of 23 = .ok (.ireturn, 1) := by decide +kernel
theorem dX2_put_0 : decode cX2_put 0 = .ok (.iload_n 1, 1) := by decide +kernel
theorem dX2_put_1 : decode cX2_put 1 = .ok (.ifCond .lt 19, 3) := by decide +kernel
theorem dX2_put_4 : decode cX2_put 4 = .ok (.iload_n 1, 1) := by decide +kernel
theorem dX2_put_5 : decode cX2_put 5 = .ok (.aload_n 0, 1) := by decide +kernel
theorem dX2_put_6 : decode cX2_put 6 = .ok (.getfield 9, 3) := by decide +kernel
theorem dX2_put_9 : decode cX2_put 9 = .ok (.arraylength, 1) := by decide +kernel
theorem dX2_put_10 : decode cX2_put 10 = .ok (.if_icmp .ge 10, 3) := by decide +kernel
theorem dX2_put_13 : decode cX2_put 13 = .ok (.aload_n 0, 1) := by decide +kernel
theorem dX2_put_14 : decode cX2_put 14 = .ok (.getfield 9, 3) := by decide +kernel
theorem dX2_put_17 : decode cX2_put 17 = .ok (.iload_n 1, 1) := by decide +kernel
theorem dX2_put_18 : decode cX2_put 18 = .ok (.iload_n 2, 1) := by decide +kernel
theorem dX2_put_19 : decode cX2_put 19 = .ok (.iastore, 1) := by decide +kernel
theorem dX2_put_20 : decode cX2_put 20 = .ok (.return_, 1) := by decide +kernel
theorem dX3_init_0 : decode cX3_init 0 = .ok (.aload_n 0, 1) := by decide +kernel
theorem dX3_init_1 : decode cX3_init 1 = .ok (.invokespecial 1, 3) := by decide +kernel
theorem dX3_init_4 : decode cX3_init 4 = .ok (.aload_n 0, 1) := by decide +kernel
theorem dX3_init_5 : decode cX3_init 5 = .ok (.new 7, 3) := by decide +kernel
theorem dX3_init_8 : decode cX3_init 8 = .ok (.dup, 1) := by decide +kernel
theorem dX3_init_9 : decode cX3_init 9 = .ok (.invokespecial 9, 3) := by decide +kernel
theorem dX3_init_12 : decode cX3_init 12 = .ok (.putfield 10, 3) := by decide +kernel
theorem dX3_init_15 : decode cX3_init 15 = .ok (.aload_n 0, 1) := by decide +kernel
theorem dX3_init_16 : decode cX3_init 16 = .ok (.new 7, 3) := by decide +kernel
theorem dX3_init_19 : decode cX3_init 19 = .ok (.dup, 1) := by decide +kernel
theorem dX3_init_20 : decode cX3_init 20 = .ok (.invokespecial 9, 3) := by decide +kernel
theorem dX3_init_23 : decode cX3_init 23 = .ok (.putfield 16, 3) := by decide +kernel
theorem dX3_init_26 : decode cX3_init 26 = .ok (.return_, 1) := by decide +kernel
theorem dX3_fetch_0 : decode cX3_fetch 0 = .ok (.iload_n 1, 1) := by decide +kernel
theorem dX3_fetch_1 : decode cX3_fetch 1 = .ok (.invokestatic 19, 3) := by decide +kernel
theorem dX3_fetch_4 : decode cX3_fetch 4 = .ok (.aload_n 0, 1) := by decide +kernel
theorem dX3_fetch_5 : decode cX3_fetch 5 = .ok (.getfield 10, 3) := by decide +kernel
