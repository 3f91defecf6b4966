theorem dX3_fetch_8 : decode cX3_fetch 8 = .ok (.iload_n 1, 1) := by decide +kernel
theorem dX3_fetch_9 : decode cX3_fetch 9 = .ok (.invokevirtual 23, 3) := by decide +kernel
theorem dX3_fetch_12 : decode cX3_fetch 12 = .ok (.istore_n 2, 1) := by decide +kernel
theorem dX3_fetch_13 : decode cX3_fetch 13 = .ok (.iload_n 2, 1) := by decide +kernel
theorem dX3_fetch_14 : decode cX3_fetch 14 = .ok (.bipush (-9), 2) := by decide +kernel
theorem dX3_fetch_16 : decode cX3_fetch 16 = .ok (.if_icmp .ne 13, 3) := by decide +kernel
theorem dX3_fetch_19 : decode cX3_fetch 19 = .ok (.new 27, 3) := by decide +kernel
theorem dX3_fetch_22 : decode cX3_fetch 22 = .ok (.dup, 1) := by decide +kernel
theorem dX3_fetch_23 : decode cX3_fetch 23 = .ok (.ldc 29, 2) := by decide +kernel
theorem dX3_fetch_25 : decode cX3_fetch 25 = .ok (.invokespecial 31, 3) := by decide +kernel
theorem dX3_fetch_28 : decode cX3_fetch 28 = .ok (.athrow, 1) := by decide +kernel
theorem dX3_fetch_29 : decode cX3_fetch 29 = .ok (.iload_n 2, 1) := by decide +kernel
theorem dX3_fetch_30 : decode cX3_fetch 30 = .ok (.ireturn, 1) := by decide +kernel
theorem dX3_fetchAll_0 : decode cX3_fetchAll 0 = .ok (.iload_n 1, 1) := by decide +kernel
theorem dX3_fetchAll_1 : decode cX3_fetchAll 1 = .ok (.iload_n 2, 1) := by decide +kernel
theorem dX3_fetchAll_2 : decode cX3_fetchAll 2 = .ok (.iload_n 3, 1) := by decide +kernel
theorem dX3_fetchAll_3 : decode cX3_fetchAll 3 = .ok (.invokestatic 34, 3) := by decide +kernel
theorem dX3_fetchAll_6 : decode cX3_fetchAll 6 = .ok (.aload_n 0, 1) := by decide +kernel
theorem dX3_fetchAll_7 : decode cX3_fetchAll 7 = .ok (.getfield 10, 3) := by decide +kernel
theorem dX3_fetchAll_10 : decode cX3_fetchAll 10 = .ok (.iload_n 1, 1) := by decide +kernel
theorem dX3_fetchAll_11 : decode cX3_fetchAll 11 = .ok (.iload_n 2, 1) := by decide +kernel
theorem dX3_fetchAll_12 : decode cX3_fetchAll 12 = .ok (.iload_n 3, 1) := by decide +kernel
theorem dX3_fetchAll_13 : decode cX3_fetchAll 13 = .ok (.invokevirtual 38, 3) := by decide +kernel
theorem dX3_fetchAll_16 : decode cX3_fetchAll 16 = .ok (.ireturn, 1) := by decide +kernel
theorem dX3_pin_0 : decode cX3_pin 0 = .ok (.iload_n 1, 1) := by decide +kernel
theorem dX3_pin_1 : decode cX3_pin 1 = .ok (.invokestatic 19, 3) := by decide +kernel
theorem dX3_pin_4 : decode cX3_pin 4 = .ok (.aload_n 0, 1) := by decide +kernel
theorem dX3_pin_5 : decode cX3_pin 5 = .ok (.iload_n 1, 1) := by decide +kernel
theorem dX3_pin_6 : decode cX3_pin 6 = .ok (.invokevirtual 42, 3) := by decide +kernel
theorem dX3_pin_9 : decode cX3_pin 9 = .ok (.aload_n 0, 1) := by decide +kernel
theorem dX3_pin_10 : decode cX3_pin 10 = .ok (.getfield 10, 3) := by decide +kernel
theorem dX3_pin_13 : decode cX3_pin 13 = .ok (.getfield 45, 3) := by decide +kernel
theorem dX3_pin_16 : decode cX3_pin 16 = .ok (.iload_n 1, 1) := by decide +kernel
theorem dX3_pin_17 : decode cX3_pin 17 = .ok (.invokevirtual 49, 3) := by decide +kernel
theorem dX3_pin_20 : decode cX3_pin 20 = .ok (.bipush 9, 2) := by decide +kernel
theorem dX3_pin_22 : decode cX3_pin 22 = .ok (.if_icmp .lt 13, 3) := by decide +kernel
theorem dX3_pin_25 : decode cX3_pin 25 = .ok (.new 27, 3) := by decide +kernel
theorem dX3_pin_28 : decode cX3_pin 28 = .ok (.dup, 1) := by decide +kernel
theorem dX3_pin_29 : decode cX3_pin 29 = .ok (.ldc 54, 2) := by decide +kernel
theorem dX3_pin_31 : decode cX3_pin 31 = .ok (.invokespecial 31, 3) := by decide +kernel
theorem dX3_pin_34 : decode cX3_pin 34 = .ok (.athrow, 1) := by decide +kernel
theorem dX3_pin_35 : decode cX3_pin 35 = .ok (.aload_n 0, 1) := by decide +kernel
theorem dX3_pin_36 : decode cX3_pin 36 = .ok (.getfield 10, 3) := by decide +kernel
theorem dX3_pin_39 : decode cX3_pin 39 = .ok (.iload_n 1, 1) := by decide +kernel
theorem dX3_pin_40 : decode cX3_pin 40 = .ok (.iconst 1, 1) := by decide +kernel
theorem dX3_pin_41 : decode cX3_pin 41 = .ok (.invokevirtual 56, 3) := by decide +kernel
theorem dX3_pin_44 : decode cX3_pin 44 = .ok (.ireturn, 1) := by decide +kernel
theorem dX3_unpin_0 : decode cX3_unpin 0 = .ok (.iload_n 1, 1) := by decide +kernel
theorem dX3_unpin_1 : decode cX3_unpin 1 = .ok (.invokestatic 19, 3) := by decide +kernel
theorem dX3_unpin_4 : decode cX3_unpin 4 = .ok (.aload_n 0, 1) := by decide +kernel
theorem dX3_unpin_5 : decode cX3_unpin 5 = .ok (.iload_n 1, 1) := by decide +kernel
theorem dX3_unpin_6 : decode cX3_unpin 6 = .ok (.invokevirtual 42, 3) := by decide +kernel
theorem dX3_unpin_9 : decode cX3_unpin 9 = .ok (.aload_n 0, 1) := by decide +kernel
theorem dX3_unpin_10 : decode cX3_unpin 10 = .ok (.getfield 10, 3) := by decide +kernel
theorem dX3_unpin_13 : decode cX3_unpin 13 = .ok (.getfield 45, 3) := by decide +kernel
theorem dX3_unpin_16 : decode cX3_unpin 16 = .ok (.iload_n 1, 1) := by decide +kernel
theorem dX3_unpin_17 : decode cX3_unpin 17 = .ok (.invokevirtual 49, 3) := by decide +kernel
theorem dX3_unpin_20 : decode cX3_unpin 20 = .ok (.iconst 1, 1) := by decide +kernel
theorem dX3_unpin_21 : decode cX3_unpin 21 = .ok (.if_icmp .ge 13, 3) := by decide +kernel
theorem dX3_unpin_24 : decode cX3_unpin 24 = .ok (.new 27, 3) := by decide +kernel
theorem dX3_unpin_27 : decode cX3_unpin 27 = .ok (.dup, 1) := by decide +kernel
theorem dX3_unpin_28 : decode cX3_unpin 28 = .ok (.ldc 60, 2) := by decide +kernel
theorem dX3_unpin_30 : decode cX3_unpin 30 = .ok (.invokespecial 31, 3) := by decide +kernel
theorem dX3_unpin_33 : decode cX3_unpin 33 = .ok (.athrow, 1) := by decide +kernel
theorem dX3_unpin_34 : decode cX3_unpin 34 = .ok (.aload_n 0, 1) := by decide +kernel
theorem dX3_unpin_35 : decode cX3_unpin 35 = .ok (.getfield 10, 3) := by decide +kernel
theorem dX3_unpin_38 : decode cX3_unpin 38 = .ok (.iload_n 1, 1) := by decide +kernel
theorem dX3_unpin_39 : decode cX3_unpin 39 = .ok (.iconst (-1), 1) := by decide +kernel
theorem dX3_unpin_40 : decode cX3_unpin 40 = .ok (.invokevirtual 56, 3) := by decide +kernel
theorem dX3_unpin_43 : decode cX3_unpin 43 = .ok (.ireturn, 1) := by decide +kernel
theorem dX3_eat_0 : decode cX3_eat 0 = .ok (.iload_n 1, 1) := by decide +kernel
theorem dX3_eat_1 : decode cX3_eat 1 = .ok (.invokestatic 19, 3) := by decide +kernel
theorem dX3_eat_4 : decode cX3_eat 4 = .ok (.aload_n 0, 1) := by decide +kernel
theorem dX3_eat_5 : decode cX3_eat 5 = .ok (.iload_n 1, 1) := by decide +kernel
theorem dX3_eat_6 : decode cX3_eat 6 = .ok (.invokevirtual 42, 3) := by decide +kernel
theorem dX3_eat_9 : decode cX3_eat 9 = .ok (.aload_n 0, 1) := by decide +kernel
theorem dX3_eat_10 : decode cX3_eat 10 = .ok (.getfield 10, 3) := by decide +kernel
theorem dX3_eat_13 : decode cX3_eat 13 = .ok (.getfield 45, 3) := by decide +kernel
theorem dX3_eat_16 : decode cX3_eat 16 = .ok (.iload_n 1, 1) := by decide +kernel
theorem dX3_eat_17 : decode cX3_eat 17 = .ok (.invokevirtual 49, 3) := by decide +kernel
theorem dX3_eat_20 : decode cX3_eat 20 = .ok (.ifCond .le 13, 3) := by decide +kernel
theorem dX3_eat_23 : decode cX3_eat 23 = .ok (.new 27, 3) := by decide +kernel
theorem dX3_eat_26 : decode cX3_eat 26 = .ok (.dup, 1) := by decide +kernel
theorem dX3_eat_27 : decode cX3_eat 27 = .ok (.ldc 62, 2) := by decide +kernel
theorem dX3_eat_29 : decode cX3_eat 29 = .ok (.invokespecial 31, 3) := by decide +kernel
theorem dX3_eat_32 : decode cX3_eat 32 = .ok (.athrow, 1) := by decide +kernel
theorem dX3_eat_33 : decode cX3_eat 33 = .ok (.aload_n 0, 1) := by decide +kernel
theorem dX3_eat_34 : decode cX3_eat 34 = .ok (.getfield 10, 3) := by decide +kernel
theorem dX3_eat_37 : decode cX3_eat 37 = .ok (.iload_n 1, 1) := by decide +kernel
theorem dX3_eat_38 : decode cX3_eat 38 = .ok (.invokevirtual 64, 3) := by decide +kernel
theorem dX3_eat_41 : decode cX3_eat 41 = .ok (.ireturn, 1) := by decide +kernel
theorem dX3_setPlaces_0 : decode cX3_setPlaces 0 = .ok (.iload_n 1, 1) := by decide +kernel
theorem dX3_setPlaces_1 : decode cX3_setPlaces 1 = .ok (.iconst 2, 1) := by decide +kernel
theorem dX3_setPlaces_2 : decode cX3_setPlaces 2 = .ok (.if_icmp .lt 9, 3) := by decide +kernel
theorem dX3_setPlaces_5 : decode cX3_setPlaces 5 = .ok (.iload_n 1, 1) := by decide +kernel
theorem dX3_setPlaces_6 : decode cX3_setPlaces 6 = .ok (.bipush 12, 2) := by decide +kernel
theorem dX3_setPlaces_8 : decode cX3_setPlaces 8 = .ok (.if_icmp .le 13, 3) := by decide +kernel
theorem dX3_setPlaces_11 : decode cX3_setPlaces 11 = .ok (.new 67, 3) := by decide +kernel
theorem dX3_setPlaces_14 : decode cX3_setPlaces 14 = .ok (.dup, 1) := by decide +kernel
theorem dX3_setPlaces_15 : decode cX3_setPlaces 15 = .ok (.ldc 69, 2) := by decide +kernel
theorem dX3_setPlaces_17 : decode cX3_setPlaces 17 = .ok (.invokespecial 71, 3) := by decide +kernel
theorem dX3_setPlaces_20 : decode cX3_setPlaces 20 = .ok (.athrow, 1) := by decide +kernel
theorem dX3_setPlaces_21 : decode cX3_setPlaces 21 = .ok (.aload_n 0, 1) := by decide +kernel
theorem dX3_setPlaces_22 : decode cX3_setPlaces 22 = .ok (.getfield 10, 3) := by decide +kernel
theorem dX3_setPlaces_25 : decode cX3_setPlaces 25 = .ok (.invokevirtual 72, 3) := by decide +kernel
theorem dX3_setPlaces_28 : decode cX3_setPlaces 28 = .ok (.iload_n 1, 1) := by decide +kernel
theorem dX3_setPlaces_29 : decode cX3_setPlaces 29 = .ok (.if_icmp .le 13, 3) := by decide +kernel
theorem dX3_setPlaces_32 : decode cX3_setPlaces 32 = .ok (.new 27, 3) := by decide +kernel
theorem dX3_setPlaces_35 : decode cX3_setPlaces 35 = .ok (.dup, 1) := by decide +kernel
theorem dX3_setPlaces_36 : decode cX3_setPlaces 36 = .ok (.ldc 76, 2) := by decide +kernel
theorem dX3_setPlaces_38 : decode cX3_setPlaces 38 = .ok (.invokespecial 31, 3) := by decide +kernel
theorem dX3_setPlaces_41 : decode cX3_setPlaces 41 = .ok (.athrow, 1) := by decide +kernel
theorem dX3_setPlaces_42 : decode cX3_setPlaces 42 = .ok (.aload_n 0, 1) := by decide +kernel
theorem dX3_setPlaces_43 : decode cX3_setPlaces 43 = .ok (.getfield 10, 3) := by decide +kernel
theorem dX3_setPlaces_46 : decode cX3_setPlaces 46 = .ok (.getfield 78, 3) := by decide +kernel
theorem dX3_setPlaces_49 : decode cX3_setPlaces 49 = .ok (.istore_n 2, 1) := by decide +kernel
theorem dX3_setPlaces_50 : decode cX3_setPlaces 50 = .ok (.aload_n 0, 1) := by decide +kernel
theorem dX3_setPlaces_51 : decode cX3_setPlaces 51 = .ok (.getfield 10, 3) := by decide +kernel
theorem dX3_setPlaces_54 : decode cX3_setPlaces 54 = .ok (.iload_n 1, 1) := by decide +kernel
theorem dX3_setPlaces_55 : decode cX3_setPlaces 55 = .ok (.invokevirtual 82, 3) := by decide +kernel
theorem dX3_setPlaces_58 : decode cX3_setPlaces 58 = .ok (.iload_n 2, 1) := by decide +kernel
theorem dX3_setPlaces_59 : decode cX3_setPlaces 59 = .ok (.ireturn, 1) := by decide +kernel
theorem dX3_setGoal_0 : decode cX3_setGoal 0 = .ok (.iload_n 1, 1) := by decide +kernel
theorem dX3_setGoal_1 : decode cX3_setGoal 1 = .ok (.ifCond .lt 14, 3) := by decide +kernel
theorem dX3_setGoal_4 : decode cX3_setGoal 4 = .ok (.iload_n 1, 1) := by decide +kernel
theorem dX3_setGoal_5 : decode cX3_setGoal 5 = .ok (.aload_n 0, 1) := by decide +kernel
theorem dX3_setGoal_6 : decode cX3_setGoal 6 = .ok (.getfield 10, 3) := by decide +kernel
theorem dX3_setGoal_9 : decode cX3_setGoal 9 = .ok (.getfield 78, 3) := by decide +kernel
theorem dX3_setGoal_12 : decode cX3_setGoal 12 = .ok (.if_icmp .le 13, 3) := by decide +kernel
theorem dX3_setGoal_15 : decode cX3_setGoal 15 = .ok (.new 67, 3) := by decide +kernel
theorem dX3_setGoal_18 : decode cX3_setGoal 18 = .ok (.dup, 1) := by decide +kernel
theorem dX3_setGoal_19 : decode cX3_setGoal 19 = .ok (.ldc 85, 2) := by decide +kernel
theorem dX3_setGoal_21 : decode cX3_setGoal 21 = .ok (.invokespecial 71, 3) := by decide +kernel
theorem dX3_setGoal_24 : decode cX3_setGoal 24 = .ok (.athrow, 1) := by decide +kernel
theorem dX3_setGoal_25 : decode cX3_setGoal 25 = .ok (.aload_n 0, 1) := by decide +kernel
theorem dX3_setGoal_26 : decode cX3_setGoal 26 = .ok (.getfield 10, 3) := by decide +kernel
theorem dX3_setGoal_29 : decode cX3_setGoal 29 = .ok (.getfield 87, 3) := by decide +kernel
theorem dX3_setGoal_32 : decode cX3_setGoal 32 = .ok (.istore_n 2, 1) := by decide +kernel
theorem dX3_setGoal_33 : decode cX3_setGoal 33 = .ok (.aload_n 0, 1) := by decide +kernel
theorem dX3_setGoal_34 : decode cX3_setGoal 34 = .ok (.getfield 10, 3) := by decide +kernel
theorem dX3_setGoal_37 : decode cX3_setGoal 37 = .ok (.iload_n 1, 1) := by decide +kernel
theorem dX3_setGoal_38 : decode cX3_setGoal 38 = .ok (.putfield 87, 3) := by decide +kernel
theorem dX3_setGoal_41 : decode cX3_setGoal 41 = .ok (.iload_n 2, 1) := by decide +kernel
theorem dX3_setGoal_42 : decode cX3_setGoal 42 = .ok (.ireturn, 1) := by decide +kernel
theorem dX3_jar_0 : decode cX3_jar 0 = .ok (.iload_n 1, 1) := by decide +kernel
theorem dX3_jar_1 : decode cX3_jar 1 = .ok (.invokestatic 19, 3) := by decide +kernel
theorem dX3_jar_4 : decode cX3_jar 4 = .ok (.iload_n 2, 1) := by decide +kernel
theorem dX3_jar_5 : decode cX3_jar 5 = .ok (.ifCond .lt 8, 3) := by decide +kernel
theorem dX3_jar_8 : decode cX3_jar 8 = .ok (.iload_n 2, 1) := by decide +kernel
theorem dX3_jar_9 : decode cX3_jar 9 = .ok (.iconst 5, 1) := by decide +kernel
theorem dX3_jar_10 : decode cX3_jar 10 = .ok (.if_icmp .lt 13, 3) := by decide +kernel
theorem dX3_jar_13 : decode cX3_jar 13 = .ok (.new 90, 3) := by decide +kernel
theorem dX3_jar_16 : decode cX3_jar 16 = .ok (.dup, 1) := by decide +kernel
theorem dX3_jar_17 : decode cX3_jar 17 = .ok (.ldc 92, 2) := by decide +kernel
theorem dX3_jar_19 : decode cX3_jar 19 = .ok (.invokespecial 94, 3) := by decide +kernel
theorem dX3_jar_22 : decode cX3_jar 22 = .ok (.athrow, 1) := by decide +kernel
theorem dX3_jar_23 : decode cX3_jar 23 = .ok (.aload_n 0, 1) := by decide +kernel
theorem dX3_jar_24 : decode cX3_jar 24 = .ok (.getfield 10, 3) := by decide +kernel
theorem dX3_jar_27 : decode cX3_jar 27 = .ok (.iload_n 1, 1) := by decide +kernel
theorem dX3_jar_28 : decode cX3_jar 28 = .ok (.iload_n 2, 1) := by decide +kernel
theorem dX3_jar_29 : decode cX3_jar 29 = .ok (.invokevirtual 95, 3) := by decide +kernel
theorem dX3_jar_32 : decode cX3_jar 32 = .ok (.ireturn, 1) := by decide +kernel
theorem dX3_shelf_0 : decode cX3_shelf 0 = .ok (.iload_n 1, 1) := by decide +kernel
theorem dX3_shelf_1 : decode cX3_shelf 1 = .ok (.invokestatic 98, 3) := by decide +kernel
theorem dX3_shelf_4 : decode cX3_shelf 4 = .ok (.aload_n 0, 1) := by decide +kernel
theorem dX3_shelf_5 : decode cX3_shelf 5 = .ok (.getfield 10, 3) := by decide +kernel
theorem dX3_shelf_8 : decode cX3_shelf 8 = .ok (.iload_n 1, 1) := by decide +kernel
theorem dX3_shelf_9 : decode cX3_shelf 9 = .ok (.invokevirtual 101, 3) := by decide +kernel
theorem dX3_shelf_12 : decode cX3_shelf 12 = .ok (.iload_n 2, 1) := by decide +kernel
theorem dX3_shelf_13 : decode cX3_shelf 13 = .ok (.invokestatic 105, 3) := by decide +kernel
theorem dX3_shelf_16 : decode cX3_shelf 16 = .ok (.ireturn, 1) := by decide +kernel
theorem dX3_ghost_0 : decode cX3_ghost 0 = .ok (.iload_n 1, 1) := by decide +kernel
theorem dX3_ghost_1 : decode cX3_ghost 1 = .ok (.invokestatic 98, 3) := by decide +kernel
theorem dX3_ghost_4 : decode cX3_ghost 4 = .ok (.aload_n 0, 1) := by decide +kernel
theorem dX3_ghost_5 : decode cX3_ghost 5 = .ok (.getfield 10, 3) := by decide +kernel
theorem dX3_ghost_8 : decode cX3_ghost 8 = .ok (.iload_n 1, 1) := by decide +kernel
theorem dX3_ghost_9 : decode cX3_ghost 9 = .ok (.invokevirtual 109, 3) := by decide +kernel
theorem dX3_ghost_12 : decode cX3_ghost 12 = .ok (.iload_n 2, 1) := by decide +kernel
theorem dX3_ghost_13 : decode cX3_ghost 13 = .ok (.invokestatic 105, 3) := by decide +kernel
theorem dX3_ghost_16 : decode cX3_ghost 16 = .ok (.ireturn, 1) := by decide +kernel
theorem dX3_count_0 : decode cX3_count 0 = .ok (.iload_n 1, 1) := by decide +kernel
theorem dX3_count_1 : decode cX3_count 1 = .ok (.ifCond .lt 9, 3) := by decide +kernel
theorem dX3_count_4 : decode cX3_count 4 = .ok (.iload_n 1, 1) := by decide +kernel
theorem dX3_count_5 : decode cX3_count 5 = .ok (.bipush 11, 2) := by decide +kernel
theorem dX3_count_7 : decode cX3_count 7 = .ok (.if_icmp .lt 13, 3) := by decide +kernel
theorem dX3_count_10 : decode cX3_count 10 = .ok (.new 90, 3) := by decide +kernel
theorem dX3_count_13 : decode cX3_count 13 = .ok (.dup, 1) := by decide +kernel
theorem dX3_count_14 : decode cX3_count 14 = .ok (.ldc 112, 2) := by decide +kernel
theorem dX3_count_16 : decode cX3_count 16 = .ok (.invokespecial 94, 3) := by decide +kernel
theorem dX3_count_19 : decode cX3_count 19 = .ok (.athrow, 1) := by decide +kernel
theorem dX3_count_20 : decode cX3_count 20 = .ok (.aload_n 0, 1) := by decide +kernel
theorem dX3_count_21 : decode cX3_count 21 = .ok (.getfield 10, 3) := by decide +kernel
theorem dX3_count_24 : decode cX3_count 24 = .ok (.iload_n 1, 1) := by decide +kernel
theorem dX3_count_25 : decode cX3_count 25 = .ok (.invokevirtual 114, 3) := by decide +kernel
theorem dX3_count_28 : decode cX3_count 28 = .ok (.ireturn, 1) := by decide +kernel
theorem dX3_next_0 : decode cX3_next 0 = .ok (.aload_n 0, 1) := by decide +kernel
theorem dX3_next_1 : decode cX3_next 1 = .ok (.getfield 16, 3) := by decide +kernel
theorem dX3_next_4 : decode cX3_next 4 = .ok (.aload_n 0, 1) := by decide +kernel
theorem dX3_next_5 : decode cX3_next 5 = .ok (.getfield 10, 3) := by decide +kernel
theorem dX3_next_8 : decode cX3_next 8 = .ok (.invokevirtual 117, 3) := by decide +kernel
theorem dX3_next_11 : decode cX3_next 11 = .ok (.aload_n 0, 1) := by decide +kernel
theorem dX3_next_12 : decode cX3_next 12 = .ok (.getfield 16, 3) := by decide +kernel
theorem dX3_next_15 : decode cX3_next 15 = .ok (.invokevirtual 121, 3) := by decide +kernel
theorem dX3_next_18 : decode cX3_next 18 = .ok (.ireturn, 1) := by decide +kernel
theorem dX3_mean_0 : decode cX3_mean 0 = .ok (.aload_n 0, 1) := by decide +kernel
theorem dX3_mean_1 : decode cX3_mean 1 = .ok (.getfield 10, 3) := by decide +kernel
theorem dX3_mean_4 : decode cX3_mean 4 = .ok (.invokevirtual 132, 3) := by decide +kernel
theorem dX3_mean_7 : decode cX3_mean 7 = .ok (.istore_n 1, 1) := by decide +kernel
theorem dX3_mean_8 : decode cX3_mean 8 = .ok (.iload_n 1, 1) := by decide +kernel
theorem dX3_mean_9 : decode cX3_mean 9 = .ok (.iconst 1, 1) := by decide +kernel
theorem dX3_mean_10 : decode cX3_mean 10 = .ok (.if_icmp .ge 7, 3) := by decide +kernel
theorem dX3_mean_13 : decode cX3_mean 13 = .ok (.dconst 0, 1) := by decide +kernel
theorem dX3_mean_14 : decode cX3_mean 14 = .ok (.goto 14, 3) := by decide +kernel
theorem dX3_mean_17 : decode cX3_mean 17 = .ok (.aload_n 0, 1) := by decide +kernel
theorem dX3_mean_18 : decode cX3_mean 18 = .ok (.getfield 10, 3) := by decide +kernel
theorem dX3_mean_21 : decode cX3_mean 21 = .ok (.invokevirtual 135, 3) := by decide +kernel
theorem dX3_mean_24 : decode cX3_mean 24 = .ok (.i2d, 1) := by decide +kernel
theorem dX3_mean_25 : decode cX3_mean 25 = .ok (.iload_n 1, 1) := by decide +kernel
theorem dX3_mean_26 : decode cX3_mean 26 = .ok (.i2d, 1) := by decide +kernel
theorem dX3_mean_27 : decode cX3_mean 27 = .ok (.ddiv, 1) := by decide +kernel
theorem dX3_mean_28 : decode cX3_mean 28 = .ok (.dreturn, 1) := by decide +kernel
theorem dX3_requireKind_0 : decode cX3_requireKind 0 = .ok (.iload_n 0, 1) := by decide +kernel
theorem dX3_requireKind_1 : decode cX3_requireKind 1 = .ok (.ifCond .lt 9, 3) := by decide +kernel
theorem dX3_requireKind_4 : decode cX3_requireKind 4 = .ok (.iload_n 0, 1) := by decide +kernel
theorem dX3_requireKind_5 : decode cX3_requireKind 5 = .ok (.bipush 40, 2) := by decide +kernel
theorem dX3_requireKind_7 : decode cX3_requireKind 7 = .ok (.if_icmp .lt 13, 3) := by decide +kernel
theorem dX3_requireKind_10 : decode cX3_requireKind 10 = .ok (.new 90, 3) := by decide +kernel
theorem dX3_requireKind_13 : decode cX3_requireKind 13 = .ok (.dup, 1) := by decide +kernel
theorem dX3_requireKind_14 : decode cX3_requireKind 14 = .ok (.ldc 152, 2) := by decide +kernel
theorem dX3_requireKind_16 : decode cX3_requireKind 16 = .ok (.invokespecial 94, 3) := by decide +kernel
theorem dX3_requireKind_19 : decode cX3_requireKind 19 = .ok (.athrow, 1) := by decide +kernel
theorem dX3_requireKind_20 : decode cX3_requireKind 20 = .ok (.return_, 1) := by decide +kernel
theorem dX3_requireSeries_0 : decode cX3_requireSeries 0 = .ok (.iload_n 0, 1) := by decide +kernel
theorem dX3_requireSeries_1 : decode cX3_requireSeries 1 = .ok (.invokestatic 19, 3) := by decide +kernel
theorem dX3_requireSeries_4 : decode cX3_requireSeries 4 = .ok (.iload_n 1, 1) := by decide +kernel
theorem dX3_requireSeries_5 : decode cX3_requireSeries 5 = .ok (.ifCond .lt 9, 3) := by decide +kernel
theorem dX3_requireSeries_8 : decode cX3_requireSeries 8 = .ok (.iload_n 1, 1) := by decide +kernel
theorem dX3_requireSeries_9 : decode cX3_requireSeries 9 = .ok (.bipush 40, 2) := by decide +kernel
theorem dX3_requireSeries_11 : decode cX3_requireSeries 11 = .ok (.if_icmp .lt 13, 3) := by decide +kernel
theorem dX3_requireSeries_14 : decode cX3_requireSeries 14 = .ok (.new 67, 3) := by decide +kernel
theorem dX3_requireSeries_17 : decode cX3_requireSeries 17 = .ok (.dup, 1) := by decide +kernel
theorem dX3_requireSeries_18 : decode cX3_requireSeries 18 = .ok (.ldc 154, 2) := by decide +kernel
theorem dX3_requireSeries_20 : decode cX3_requireSeries 20 = .ok (.invokespecial 71, 3) := by decide +kernel
theorem dX3_requireSeries_23 : decode cX3_requireSeries 23 = .ok (.athrow, 1) := by decide +kernel
theorem dX3_requireSeries_24 : decode cX3_requireSeries 24 = .ok (.iload_n 2, 1) := by decide +kernel
theorem dX3_requireSeries_25 : decode cX3_requireSeries 25 = .ok (.iconst 1, 1) := by decide +kernel
theorem dX3_requireSeries_26 : decode cX3_requireSeries 26 = .ok (.if_icmp .lt 9, 3) := by decide +kernel
theorem dX3_requireSeries_29 : decode cX3_requireSeries 29 = .ok (.iload_n 2, 1) := by decide +kernel
theorem dX3_requireSeries_30 : decode cX3_requireSeries 30 = .ok (.bipush 30, 2) := by decide +kernel
theorem dX3_requireSeries_32 : decode cX3_requireSeries 32 = .ok (.if_icmp .le 13, 3) := by decide +kernel
theorem dX3_requireSeries_35 : decode cX3_requireSeries 35 = .ok (.new 67, 3) := by decide +kernel
theorem dX3_requireSeries_38 : decode cX3_requireSeries 38 = .ok (.dup, 1) := by decide +kernel
theorem dX3_requireSeries_39 : decode cX3_requireSeries 39 = .ok (.ldc 156, 2) := by decide +kernel
theorem dX3_requireSeries_41 : decode cX3_requireSeries 41 = .ok (.invokespecial 71, 3) := by decide +kernel
theorem dX3_requireSeries_44 : decode cX3_requireSeries 44 = .ok (.athrow, 1) := by decide +kernel
theorem dX3_requireSeries_45 : decode cX3_requireSeries 45 = .ok (.return_, 1) := by decide +kernel
theorem dX3_requireShelf_0 : decode cX3_requireShelf 0 = .ok (.iload_n 0, 1) := by decide +kernel
theorem dX3_requireShelf_1 : decode cX3_requireShelf 1 = .ok (.ifCond .eq 18, 3) := by decide +kernel
theorem dX3_requireShelf_4 : decode cX3_requireShelf 4 = .ok (.iload_n 0, 1) := by decide +kernel
theorem dX3_requireShelf_5 : decode cX3_requireShelf 5 = .ok (.iconst 1, 1) := by decide +kernel
theorem dX3_requireShelf_6 : decode cX3_requireShelf 6 = .ok (.if_icmp .eq 13, 3) := by decide +kernel
theorem dX3_requireShelf_9 : decode cX3_requireShelf 9 = .ok (.new 90, 3) := by decide +kernel
theorem dX3_requireShelf_12 : decode cX3_requireShelf 12 = .ok (.dup, 1) := by decide +kernel
theorem dX3_requireShelf_13 : decode cX3_requireShelf 13 = .ok (.ldc 158, 2) := by decide +kernel
theorem dX3_requireShelf_15 : decode cX3_requireShelf 15 = .ok (.invokespecial 94, 3) := by decide +kernel
theorem dX3_requireShelf_18 : decode cX3_requireShelf 18 = .ok (.athrow, 1) := by decide +kernel
theorem dX3_requireShelf_19 : decode cX3_requireShelf 19 = .ok (.return_, 1) := by decide +kernel
theorem dX3_requireAt_0 : decode cX3_requireAt 0 = .ok (.aload_n 0, 1) := by decide +kernel
theorem dX3_requireAt_1 : decode cX3_requireAt 1 = .ok (.iload_n 1, 1) := by decide +kernel
theorem dX3_requireAt_2 : decode cX3_requireAt 2 = .ok (.invokevirtual 160, 3) := by decide +kernel
theorem dX3_requireAt_5 : decode cX3_requireAt 5 = .ok (.istore_n 2, 1) := by decide +kernel
theorem dX3_requireAt_6 : decode cX3_requireAt 6 = .ok (.iload_n 2, 1) := by decide +kernel
theorem dX3_requireAt_7 : decode cX3_requireAt 7 = .ok (.iconst (-1), 1) := by decide +kernel
theorem dX3_requireAt_8 : decode cX3_requireAt 8 = .ok (.if_icmp .ne 13, 3) := by decide +kernel
theorem dX3_requireAt_11 : decode cX3_requireAt 11 = .ok (.new 90, 3) := by decide +kernel
theorem dX3_requireAt_14 : decode cX3_requireAt 14 = .ok (.dup, 1) := by decide +kernel
theorem dX3_requireAt_15 : decode cX3_requireAt 15 = .ok (.ldc 163, 2) := by decide +kernel
theorem dX3_requireAt_17 : decode cX3_requireAt 17 = .ok (.invokespecial 94, 3) := by decide +kernel
theorem dX3_requireAt_20 : decode cX3_requireAt 20 = .ok (.athrow, 1) := by decide +kernel
theorem dX3_requireAt_21 : decode cX3_requireAt 21 = .ok (.iload_n 2, 1) := by decide +kernel
theorem dX3_requireAt_22 : decode cX3_requireAt 22 = .ok (.ireturn, 1) := by decide +kernel
theorem dX3_requireJar_0 : decode cX3_requireJar 0 = .ok (.aload_n 0, 1) := by decide +kernel
theorem dX3_requireJar_1 : decode cX3_requireJar 1 = .ok (.getfield 10, 3) := by decide +kernel
theorem dX3_requireJar_4 : decode cX3_requireJar 4 = .ok (.iload_n 1, 1) := by decide +kernel
theorem dX3_requireJar_5 : decode cX3_requireJar 5 = .ok (.invokevirtual 165, 3) := by decide +kernel
theorem dX3_requireJar_8 : decode cX3_requireJar 8 = .ok (.ifCond .ne 13, 3) := by decide +kernel
theorem dX3_requireJar_11 : decode cX3_requireJar 11 = .ok (.new 27, 3) := by decide +kernel
theorem dX3_requireJar_14 : decode cX3_requireJar 14 = .ok (.dup, 1) := by decide +kernel
theorem dX3_requireJar_15 : decode cX3_requireJar 15 = .ok (.ldc 169, 2) := by decide +kernel
theorem dX3_requireJar_17 : decode cX3_requireJar 17 = .ok (.invokespecial 31, 3) := by decide +kernel
theorem dX3_requireJar_20 : decode cX3_requireJar 20 = .ok (.athrow, 1) := by decide +kernel
theorem dX3_requireJar_21 : decode cX3_requireJar 21 = .ok (.return_, 1) := by decide +kernel
theorem dX4_init_0 : decode cX4_init 0 = .ok (.aload_n 0, 1) := by decide +kernel
theorem dX4_init_1 : decode cX4_init 1 = .ok (.invokespecial 1, 3) := by decide +kernel
theorem dX4_init_4 : decode cX4_init 4 = .ok (.aload_n 0, 1) := by decide +kernel
theorem dX4_init_5 : decode cX4_init 5 = .ok (.iconst 1, 1) := by decide +kernel
theorem dX4_init_6 : decode cX4_init 6 = .ok (.putfield 7, 3) := by decide +kernel
theorem dX4_init_9 : decode cX4_init 9 = .ok (.aload_n 0, 1) := by decide +kernel
theorem dX4_init_10 : decode cX4_init 10 = .ok (.iload_n 1, 1) := by decide +kernel
theorem dX4_init_11 : decode cX4_init 11 = .ok (.putfield 13, 3) := by decide +kernel
theorem dX4_init_14 : decode cX4_init 14 = .ok (.return_, 1) := by decide +kernel
theorem dX5_init_0 : decode cX5_init 0 = .ok (.aload_n 0, 1) := by decide +kernel
theorem dX5_init_1 : decode cX5_init 1 = .ok (.invokespecial 1, 3) := by decide +kernel
theorem dX5_init_4 : decode cX5_init 4 = .ok (.aload_n 0, 1) := by decide +kernel
theorem dX5_init_5 : decode cX5_init 5 = .ok (.bipush 6, 2) := by decide +kernel
theorem dX5_init_7 : decode cX5_init 7 = .ok (.putfield 7, 3) := by decide +kernel
theorem dX5_init_10 : decode cX5_init 10 = .ok (.aload_n 0, 1) := by decide +kernel
theorem dX5_init_11 : decode cX5_init 11 = .ok (.iconst 2, 1) := by decide +kernel
theorem dX5_init_12 : decode cX5_init 12 = .ok (.anewarray 13, 3) := by decide +kernel
theorem dX5_init_15 : decode cX5_init 15 = .ok (.dup, 1) := by decide +kernel
theorem dX5_init_16 : decode cX5_init 16 = .ok (.iconst 0, 1) := by decide +kernel
theorem dX5_init_17 : decode cX5_init 17 = .ok (.iconst 0, 1) := by decide +kernel
theorem dX5_init_18 : decode cX5_init 18 = .ok (.anewarray 15, 3) := by decide +kernel
theorem dX5_init_21 : decode cX5_init 21 = .ok (.aastore, 1) := by decide +kernel
theorem dX5_init_22 : decode cX5_init 22 = .ok (.dup, 1) := by decide +kernel
theorem dX5_init_23 : decode cX5_init 23 = .ok (.iconst 1, 1) := by decide +kernel
theorem dX5_init_24 : decode cX5_init 24 = .ok (.iconst 0, 1) := by decide +kernel
theorem dX5_init_25 : decode cX5_init 25 = .ok (.anewarray 15, 3) := by decide +kernel
theorem dX5_init_28 : decode cX5_init 28 = .ok (.aastore, 1) := by decide +kernel
theorem dX5_init_29 : decode cX5_init 29 = .ok (.putfield 17, 3) := by decide +kernel
theorem dX5_init_32 : decode cX5_init 32 = .ok (.aload_n 0, 1) := by decide +kernel
theorem dX5_init_33 : decode cX5_init 33 = .ok (.iconst 2, 1) := by decide +kernel
theorem dX5_init_34 : decode cX5_init 34 = .ok (.anewarray 21, 3) := by decide +kernel
theorem dX5_init_37 : decode cX5_init 37 = .ok (.dup, 1) := by decide +kernel
theorem dX5_init_38 : decode cX5_init 38 = .ok (.iconst 0, 1) := by decide +kernel
theorem dX5_init_39 : decode cX5_init 39 = .ok (.iconst 0, 1) := by decide +kernel
theorem dX5_init_40 : decode cX5_init 40 = .ok (.newarray .int, 2) := by decide +kernel
theorem dX5_init_42 : decode cX5_init 42 = .ok (.aastore, 1) := by decide +kernel
theorem dX5_init_43 : decode cX5_init 43 = .ok (.dup, 1) := by decide +kernel
theorem dX5_init_44 : decode cX5_init 44 = .ok (.iconst 1, 1) := by decide +kernel
theorem dX5_init_45 : decode cX5_init 45 = .ok (.iconst 0, 1) := by decide +kernel
theorem dX5_init_46 : decode cX5_init 46 = .ok (.newarray .int, 2) := by decide +kernel
theorem dX5_init_48 : decode cX5_init 48 = .ok (.aastore, 1) := by decide +kernel
theorem dX5_init_49 : decode cX5_init 49 = .ok (.putfield 23, 3) := by decide +kernel
theorem dX5_init_52 : decode cX5_init 52 = .ok (.return_, 1) := by decide +kernel
theorem dX5_all_0 : decode cX5_all 0 = .ok (.aload_n 0, 1) := by decide +kernel
theorem dX5_all_1 : decode cX5_all 1 = .ok (.getfield 17, 3) := by decide +kernel
theorem dX5_all_4 : decode cX5_all 4 = .ok (.iconst 0, 1) := by decide +kernel
theorem dX5_all_5 : decode cX5_all 5 = .ok (.aaload, 1) := by decide +kernel
theorem dX5_all_6 : decode cX5_all 6 = .ok (.arraylength, 1) := by decide +kernel
theorem dX5_all_7 : decode cX5_all 7 = .ok (.aload_n 0, 1) := by decide +kernel
theorem dX5_all_8 : decode cX5_all 8 = .ok (.getfield 17, 3) := by decide +kernel
theorem dX5_all_11 : decode cX5_all 11 = .ok (.iconst 1, 1) := by decide +kernel
theorem dX5_all_12 : decode cX5_all 12 = .ok (.aaload, 1) := by decide +kernel
theorem dX5_all_13 : decode cX5_all 13 = .ok (.arraylength, 1) := by decide +kernel
theorem dX5_all_14 : decode cX5_all 14 = .ok (.iadd, 1) := by decide +kernel
theorem dX5_all_15 : decode cX5_all 15 = .ok (.ireturn, 1) := by decide +kernel
theorem dX5_pinned_0 : decode cX5_pinned 0 = .ok (.iconst 0, 1) := by decide +kernel
theorem dX5_pinned_1 : decode cX5_pinned 1 = .ok (.istore_n 1, 1) := by decide +kernel
theorem dX5_pinned_2 : decode cX5_pinned 2 = .ok (.aload_n 0, 1) := by decide +kernel
theorem dX5_pinned_3 : decode cX5_pinned 3 = .ok (.getfield 17, 3) := by decide +kernel
theorem dX5_pinned_6 : decode cX5_pinned 6 = .ok (.astore_n 2, 1) := by decide +kernel
theorem dX5_pinned_7 : decode cX5_pinned 7 = .ok (.aload_n 2, 1) := by decide +kernel
theorem dX5_pinned_8 : decode cX5_pinned 8 = .ok (.arraylength, 1) := by decide +kernel
theorem dX5_pinned_9 : decode cX5_pinned 9 = .ok (.istore_n 3, 1) := by decide +kernel
theorem dX5_pinned_10 : decode cX5_pinned 10 = .ok (.iconst 0, 1) := by decide +kernel
theorem dX5_pinned_11 : decode cX5_pinned 11 = .ok (.istore 4, 2) := by decide +kernel
theorem dX5_pinned_13 : decode cX5_pinned 13 = .ok (.iload 4, 2) := by decide +kernel
theorem dX5_pinned_15 : decode cX5_pinned 15 = .ok (.iload_n 3, 1) := by decide +kernel
theorem dX5_pinned_16 : decode cX5_pinned 16 = .ok (.if_icmp .ge 63, 3) := by decide +kernel
theorem dX5_pinned_19 : decode cX5_pinned 19 = .ok (.aload_n 2, 1) := by decide +kernel
theorem dX5_pinned_20 : decode cX5_pinned 20 = .ok (.iload 4, 2) := by decide +kernel
theorem dX5_pinned_22 : decode cX5_pinned 22 = .ok (.aaload, 1) := by decide +kernel
theorem dX5_pinned_23 : decode cX5_pinned 23 = .ok (.astore 5, 2) := by decide +kernel
theorem dX5_pinned_25 : decode cX5_pinned 25 = .ok (.aload 5, 2) := by decide +kernel
theorem dX5_pinned_27 : decode cX5_pinned 27 = .ok (.astore 6, 2) := by decide +kernel
theorem dX5_pinned_29 : decode cX5_pinned 29 = .ok (.aload 6, 2) := by decide +kernel
theorem dX5_pinned_31 : decode cX5_pinned 31 = .ok (.arraylength, 1) := by decide +kernel
theorem dX5_pinned_32 : decode cX5_pinned 32 = .ok (.istore 7, 2) := by decide +kernel
theorem dX5_pinned_34 : decode cX5_pinned 34 = .ok (.iconst 0, 1) := by decide +kernel
theorem dX5_pinned_35 : decode cX5_pinned 35 = .ok (.istore 8, 2) := by decide +kernel
theorem dX5_pinned_37 : decode cX5_pinned 37 = .ok (.iload 8, 2) := by decide +kernel
theorem dX5_pinned_39 : decode cX5_pinned 39 = .ok (.iload 7, 2) := by decide +kernel
theorem dX5_pinned_41 : decode cX5_pinned 41 = .ok (.if_icmp .ge 32, 3) := by decide +kernel
theorem dX5_pinned_44 : decode cX5_pinned 44 = .ok (.aload 6, 2) := by decide +kernel
theorem dX5_pinned_46 : decode cX5_pinned 46 = .ok (.iload 8, 2) := by decide +kernel
theorem dX5_pinned_48 : decode cX5_pinned 48 = .ok (.aaload, 1) := by decide +kernel
theorem dX5_pinned_49 : decode cX5_pinned 49 = .ok (.astore 9, 2) := by decide +kernel
theorem dX5_pinned_51 : decode cX5_pinned 51 = .ok (.iload_n 1, 1) := by decide +kernel
theorem dX5_pinned_52 : decode cX5_pinned 52 = .ok (.aload 9, 2) := by decide +kernel
theorem dX5_pinned_54 : decode cX5_pinned 54 = .ok (.getfield 47, 3) := by decide +kernel
theorem dX5_pinned_57 : decode cX5_pinned 57 = .ok (.ifCond .le 7, 3) := by decide +kernel
theorem dX5_pinned_60 : decode cX5_pinned 60 = .ok (.iconst 1, 1) := by decide +kernel
theorem dX5_pinned_61 : decode cX5_pinned 61 = .ok (.goto 4, 3) := by decide +kernel
theorem dX5_pinned_64 : decode cX5_pinned 64 = .ok (.iconst 0, 1) := by decide +kernel
theorem dX5_pinned_65 : decode cX5_pinned 65 = .ok (.iadd, 1) := by decide +kernel
theorem dX5_pinned_66 : decode cX5_pinned 66 = .ok (.istore_n 1, 1) := by decide +kernel
theorem dX5_pinned_67 : decode cX5_pinned 67 = .ok (.iinc 8 1, 3) := by decide +kernel
theorem dX5_pinned_70 : decode cX5_pinned 70 = .ok (.goto (-33), 3) := by decide +kernel
theorem dX5_pinned_73 : decode cX5_pinned 73 = .ok (.iinc 4 1, 3) := by decide +kernel
theorem dX5_pinned_76 : decode cX5_pinned 76 = .ok (.goto (-63), 3) := by decide +kernel
theorem dX5_pinned_79 : decode cX5_pinned 79 = .ok (.iload_n 1, 1) := by decide +kernel
theorem dX5_pinned_80 : decode cX5_pinned 80 = .ok (.ireturn, 1) := by decide +kernel
theorem dX5_free_0 : decode cX5_free 0 = .ok (.iconst 0, 1) := by decide +kernel
theorem dX5_free_1 : decode cX5_free 1 = .ok (.istore_n 2, 1) := by decide +kernel
theorem dX5_free_2 : decode cX5_free 2 = .ok (.aload_n 0, 1) := by decide +kernel
theorem dX5_free_3 : decode cX5_free 3 = .ok (.getfield 17, 3) := by decide +kernel
theorem dX5_free_6 : decode cX5_free 6 = .ok (.iload_n 1, 1) := by decide +kernel
theorem dX5_free_7 : decode cX5_free 7 = .ok (.aaload, 1) := by decide +kernel
theorem dX5_free_8 : decode cX5_free 8 = .ok (.astore_n 3, 1) := by decide +kernel
theorem dX5_free_9 : decode cX5_free 9 = .ok (.aload_n 3, 1) := by decide +kernel
theorem dX5_free_10 : decode cX5_free 10 = .ok (.arraylength, 1) := by decide +kernel
theorem dX5_free_11 : decode cX5_free 11 = .ok (.istore 4, 2) := by decide +kernel
theorem dX5_free_13 : decode cX5_free 13 = .ok (.iconst 0, 1) := by decide +kernel
theorem dX5_free_14 : decode cX5_free 14 = .ok (.istore 5, 2) := by decide +kernel
theorem dX5_free_16 : decode cX5_free 16 = .ok (.iload 5, 2) := by decide +kernel
theorem dX5_free_18 : decode cX5_free 18 = .ok (.iload 4, 2) := by decide +kernel
theorem dX5_free_20 : decode cX5_free 20 = .ok (.if_icmp .ge 31, 3) := by decide +kernel
theorem dX5_free_23 : decode cX5_free 23 = .ok (.aload_n 3, 1) := by decide +kernel
theorem dX5_free_24 : decode cX5_free 24 = .ok (.iload 5, 2) := by decide +kernel
theorem dX5_free_26 : decode cX5_free 26 = .ok (.aaload, 1) := by decide +kernel
theorem dX5_free_27 : decode cX5_free 27 = .ok (.astore 6, 2) := by decide +kernel
theorem dX5_free_29 : decode cX5_free 29 = .ok (.iload_n 2, 1) := by decide +kernel
theorem dX5_free_30 : decode cX5_free 30 = .ok (.aload 6, 2) := by decide +kernel
theorem dX5_free_32 : decode cX5_free 32 = .ok (.getfield 47, 3) := by decide +kernel
theorem dX5_free_35 : decode cX5_free 35 = .ok (.ifCond .ne 7, 3) := by decide +kernel
theorem dX5_free_38 : decode cX5_free 38 = .ok (.iconst 1, 1) := by decide +kernel
theorem dX5_free_39 : decode cX5_free 39 = .ok (.goto 4, 3) := by decide +kernel
theorem dX5_free_42 : decode cX5_free 42 = .ok (.iconst 0, 1) := by decide +kernel
theorem dX5_free_43 : decode cX5_free 43 = .ok (.iadd, 1) := by decide +kernel
theorem dX5_free_44 : decode cX5_free 44 = .ok (.istore_n 2, 1) := by decide +kernel
theorem dX5_free_45 : decode cX5_free 45 = .ok (.iinc 5 1, 3) := by decide +kernel
theorem dX5_free_48 : decode cX5_free 48 = .ok (.goto (-32), 3) := by decide +kernel
theorem dX5_free_51 : decode cX5_free 51 = .ok (.iload_n 2, 1) := by decide +kernel
theorem dX5_free_52 : decode cX5_free 52 = .ok (.ireturn, 1) := by decide +kernel
theorem dX5_find_0 : decode cX5_find 0 = .ok (.aload_n 0, 1) := by decide +kernel
theorem dX5_find_1 : decode cX5_find 1 = .ok (.getfield 17, 3) := by decide +kernel
theorem dX5_find_4 : decode cX5_find 4 = .ok (.astore_n 2, 1) := by decide +kernel
theorem dX5_find_5 : decode cX5_find 5 = .ok (.aload_n 2, 1) := by decide +kernel
theorem dX5_find_6 : decode cX5_find 6 = .ok (.arraylength, 1) := by decide +kernel
theorem dX5_find_7 : decode cX5_find 7 = .ok (.istore_n 3, 1) := by decide +kernel
theorem dX5_find_8 : decode cX5_find 8 = .ok (.iconst 0, 1) := by decide +kernel
theorem dX5_find_9 : decode cX5_find 9 = .ok (.istore 4, 2) := by decide +kernel
theorem dX5_find_11 : decode cX5_find 11 = .ok (.iload 4, 2) := by decide +kernel
theorem dX5_find_13 : decode cX5_find 13 = .ok (.iload_n 3, 1) := by decide +kernel
theorem dX5_find_14 : decode cX5_find 14 = .ok (.if_icmp .ge 59, 3) := by decide +kernel
theorem dX5_find_17 : decode cX5_find 17 = .ok (.aload_n 2, 1) := by decide +kernel
theorem dX5_find_18 : decode cX5_find 18 = .ok (.iload 4, 2) := by decide +kernel
theorem dX5_find_20 : decode cX5_find 20 = .ok (.aaload, 1) := by decide +kernel
theorem dX5_find_21 : decode cX5_find 21 = .ok (.astore 5, 2) := by decide +kernel
theorem dX5_find_23 : decode cX5_find 23 = .ok (.aload 5, 2) := by decide +kernel
theorem dX5_find_25 : decode cX5_find 25 = .ok (.astore 6, 2) := by decide +kernel
theorem dX5_find_27 : decode cX5_find 27 = .ok (.aload 6, 2) := by decide +kernel
theorem dX5_find_29 : decode cX5_find 29 = .ok (.arraylength, 1) := by decide +kernel
theorem dX5_find_30 : decode cX5_find 30 = .ok (.istore 7, 2) := by decide +kernel
theorem dX5_find_32 : decode cX5_find 32 = .ok (.iconst 0, 1) := by decide +kernel
theorem dX5_find_33 : decode cX5_find 33 = .ok (.istore 8, 2) := by decide +kernel
theorem dX5_find_35 : decode cX5_find 35 = .ok (.iload 8, 2) := by decide +kernel
theorem dX5_find_37 : decode cX5_find 37 = .ok (.iload 7, 2) := by decide +kernel
theorem dX5_find_39 : decode cX5_find 39 = .ok (.if_icmp .ge 28, 3) := by decide +kernel
theorem dX5_find_42 : decode cX5_find 42 = .ok (.aload 6, 2) := by decide +kernel
theorem dX5_find_44 : decode cX5_find 44 = .ok (.iload 8, 2) := by decide +kernel
theorem dX5_find_46 : decode cX5_find 46 = .ok (.aaload, 1) := by decide +kernel
theorem dX5_find_47 : decode cX5_find 47 = .ok (.astore 9, 2) := by decide +kernel
theorem dX5_find_49 : decode cX5_find 49 = .ok (.aload 9, 2) := by decide +kernel
theorem dX5_find_51 : decode cX5_find 51 = .ok (.getfield 50, 3) := by decide +kernel
theorem dX5_find_54 : decode cX5_find 54 = .ok (.iload_n 1, 1) := by decide +kernel
theorem dX5_find_55 : decode cX5_find 55 = .ok (.if_icmp .ne 6, 3) := by decide +kernel
theorem dX5_find_58 : decode cX5_find 58 = .ok (.aload 9, 2) := by decide +kernel
theorem dX5_find_60 : decode cX5_find 60 = .ok (.areturn, 1) := by decide +kernel
theorem dX5_find_61 : decode cX5_find 61 = .ok (.iinc 8 1, 3) := by decide +kernel
theorem dX5_find_64 : decode cX5_find 64 = .ok (.goto (-29), 3) := by decide +kernel
theorem dX5_find_67 : decode cX5_find 67 = .ok (.iinc 4 1, 3) := by decide +kernel
theorem dX5_find_70 : decode cX5_find 70 = .ok (.goto (-59), 3) := by decide +kernel
theorem dX5_find_73 : decode cX5_find 73 = .ok (.aconst_null, 1) := by decide +kernel
theorem dX5_find_74 : decode cX5_find 74 = .ok (.areturn, 1) := by decide +kernel
theorem dX5_list_0 : decode cX5_list 0 = .ok (.iconst 0, 1) := by decide +kernel
theorem dX5_list_1 : decode cX5_list 1 = .ok (.istore_n 2, 1) := by decide +kernel
theorem dX5_list_2 : decode cX5_list 2 = .ok (.iload_n 2, 1) := by decide +kernel
theorem dX5_list_3 : decode cX5_list 3 = .ok (.iconst 2, 1) := by decide +kernel
theorem dX5_list_4 : decode cX5_list 4 = .ok (.if_icmp .ge 52, 3) := by decide +kernel
theorem dX5_list_7 : decode cX5_list 7 = .ok (.iconst 0, 1) := by decide +kernel
theorem dX5_list_8 : decode cX5_list 8 = .ok (.istore_n 3, 1) := by decide +kernel
theorem dX5_list_9 : decode cX5_list 9 = .ok (.iload_n 3, 1) := by decide +kernel
theorem dX5_list_10 : decode cX5_list 10 = .ok (.aload_n 0, 1) := by decide +kernel
theorem dX5_list_11 : decode cX5_list 11 = .ok (.getfield 23, 3) := by decide +kernel
theorem dX5_list_14 : decode cX5_list 14 = .ok (.iload_n 2, 1) := by decide +kernel
theorem dX5_list_15 : decode cX5_list 15 = .ok (.aaload, 1) := by decide +kernel
theorem dX5_list_16 : decode cX5_list 16 = .ok (.arraylength, 1) := by decide +kernel
theorem dX5_list_17 : decode cX5_list 17 = .ok (.if_icmp .ge 33, 3) := by decide +kernel
theorem dX5_list_20 : decode cX5_list 20 = .ok (.aload_n 0, 1) := by decide +kernel
theorem dX5_list_21 : decode cX5_list 21 = .ok (.getfield 23, 3) := by decide +kernel
theorem dX5_list_24 : decode cX5_list 24 = .ok (.iload_n 2, 1) := by decide +kernel
theorem dX5_list_25 : decode cX5_list 25 = .ok (.aaload, 1) := by decide +kernel
theorem dX5_list_26 : decode cX5_list 26 = .ok (.iload_n 3, 1) := by decide +kernel
theorem dX5_list_27 : decode cX5_list 27 = .ok (.iaload, 1) := by decide +kernel
theorem dX5_list_28 : decode cX5_list 28 = .ok (.iload_n 1, 1) := by decide +kernel
theorem dX5_list_29 : decode cX5_list 29 = .ok (.if_icmp .ne 15, 3) := by decide +kernel
theorem dX5_list_32 : decode cX5_list 32 = .ok (.iconst 2, 1) := by decide +kernel
theorem dX5_list_33 : decode cX5_list 33 = .ok (.newarray .int, 2) := by decide +kernel
theorem dX5_list_35 : decode cX5_list 35 = .ok (.dup, 1) := by decide +kernel
theorem dX5_list_36 : decode cX5_list 36 = .ok (.iconst 0, 1) := by decide +kernel
theorem dX5_list_37 : decode cX5_list 37 = .ok (.iload_n 2, 1) := by decide +kernel
theorem dX5_list_38 : decode cX5_list 38 = .ok (.iastore, 1) := by decide +kernel
theorem dX5_list_39 : decode cX5_list 39 = .ok (.dup, 1) := by decide +kernel
theorem dX5_list_40 : decode cX5_list 40 = .ok (.iconst 1, 1) := by decide +kernel
theorem dX5_list_41 : decode cX5_list 41 = .ok (.iload_n 3, 1) := by decide +kernel
theorem dX5_list_42 : decode cX5_list 42 = .ok (.iastore, 1) := by decide +kernel
theorem dX5_list_43 : decode cX5_list 43 = .ok (.areturn, 1) := by decide +kernel
theorem dX5_list_44 : decode cX5_list 44 = .ok (.iinc 3 1, 3) := by decide +kernel
theorem dX5_list_47 : decode cX5_list 47 = .ok (.goto (-38), 3) := by decide +kernel
theorem dX5_list_50 : decode cX5_list 50 = .ok (.iinc 2 1, 3) := by decide +kernel
theorem dX5_list_53 : decode cX5_list 53 = .ok (.goto (-51), 3) := by decide +kernel
theorem dX5_list_56 : decode cX5_list 56 = .ok (.aconst_null, 1) := by decide +kernel
theorem dX5_list_57 : decode cX5_list 57 = .ok (.areturn, 1) := by decide +kernel
theorem dX5_sweep_0 : decode cX5_sweep 0 = .ok (.aload_n 0, 1) := by decide +kernel
theorem dX5_sweep_1 : decode cX5_sweep 1 = .ok (.getfield 28, 3) := by decide +kernel
theorem dX5_sweep_4 : decode cX5_sweep 4 = .ok (.iconst 1, 1) := by decide +kernel
theorem dX5_sweep_5 : decode cX5_sweep 5 = .ok (.if_icmp .le 10, 3) := by decide +kernel
theorem dX5_sweep_8 : decode cX5_sweep 8 = .ok (.aload_n 0, 1) := by decide +kernel
theorem dX5_sweep_9 : decode cX5_sweep 9 = .ok (.getfield 28, 3) := by decide +kernel
theorem dX5_sweep_12 : decode cX5_sweep 12 = .ok (.goto 4, 3) := by decide +kernel
theorem dX5_sweep_15 : decode cX5_sweep 15 = .ok (.iconst 1, 1) := by decide +kernel
theorem dX5_sweep_16 : decode cX5_sweep 16 = .ok (.istore_n 1, 1) := by decide +kernel
theorem dX5_sweep_17 : decode cX5_sweep 17 = .ok (.aload_n 0, 1) := by decide +kernel
theorem dX5_sweep_18 : decode cX5_sweep 18 = .ok (.iconst 0, 1) := by decide +kernel
theorem dX5_sweep_19 : decode cX5_sweep 19 = .ok (.invokevirtual 53, 3) := by decide +kernel
theorem dX5_sweep_22 : decode cX5_sweep 22 = .ok (.ifCond .le 26, 3) := by decide +kernel
theorem dX5_sweep_25 : decode cX5_sweep 25 = .ok (.aload_n 0, 1) := by decide +kernel
theorem dX5_sweep_26 : decode cX5_sweep 26 = .ok (.getfield 17, 3) := by decide +kernel
theorem dX5_sweep_29 : decode cX5_sweep 29 = .ok (.iconst 0, 1) := by decide +kernel
theorem dX5_sweep_30 : decode cX5_sweep 30 = .ok (.aaload, 1) := by decide +kernel
theorem dX5_sweep_31 : decode cX5_sweep 31 = .ok (.arraylength, 1) := by decide +kernel
theorem dX5_sweep_32 : decode cX5_sweep 32 = .ok (.iload_n 1, 1) := by decide +kernel
theorem dX5_sweep_33 : decode cX5_sweep 33 = .ok (.if_icmp .ge 11, 3) := by decide +kernel
theorem dX5_sweep_36 : decode cX5_sweep 36 = .ok (.aload_n 0, 1) := by decide +kernel
theorem dX5_sweep_37 : decode cX5_sweep 37 = .ok (.iconst 1, 1) := by decide +kernel
theorem dX5_sweep_38 : decode cX5_sweep 38 = .ok (.invokevirtual 53, 3) := by decide +kernel
theorem dX5_sweep_41 : decode cX5_sweep 41 = .ok (.ifCond .ne 7, 3) := by decide +kernel
theorem dX5_sweep_44 : decode cX5_sweep 44 = .ok (.iconst 0, 1) := by decide +kernel
theorem dX5_sweep_45 : decode cX5_sweep 45 = .ok (.goto 4, 3) := by decide +kernel
theorem dX5_sweep_48 : decode cX5_sweep 48 = .ok (.iconst 1, 1) := by decide +kernel
theorem dX5_sweep_49 : decode cX5_sweep 49 = .ok (.istore_n 2, 1) := by decide +kernel
theorem dX5_sweep_50 : decode cX5_sweep 50 = .ok (.aload_n 0, 1) := by decide +kernel
theorem dX5_sweep_51 : decode cX5_sweep 51 = .ok (.getfield 17, 3) := by decide +kernel
theorem dX5_sweep_54 : decode cX5_sweep 54 = .ok (.iload_n 2, 1) := by decide +kernel
theorem dX5_sweep_55 : decode cX5_sweep 55 = .ok (.aaload, 1) := by decide +kernel
theorem dX5_sweep_56 : decode cX5_sweep 56 = .ok (.iconst 0, 1) := by decide +kernel
theorem dX5_sweep_57 : decode cX5_sweep 57 = .ok (.aaload, 1) := by decide +kernel
theorem dX5_sweep_58 : decode cX5_sweep 58 = .ok (.astore_n 3, 1) := by decide +kernel
theorem dX5_sweep_59 : decode cX5_sweep 59 = .ok (.aload_n 0, 1) := by decide +kernel
theorem dX5_sweep_60 : decode cX5_sweep 60 = .ok (.getfield 17, 3) := by decide +kernel
theorem dX5_sweep_63 : decode cX5_sweep 63 = .ok (.iload_n 2, 1) := by decide +kernel
theorem dX5_sweep_64 : decode cX5_sweep 64 = .ok (.aload_n 0, 1) := by decide +kernel
theorem dX5_sweep_65 : decode cX5_sweep 65 = .ok (.getfield 17, 3) := by decide +kernel
theorem dX5_sweep_68 : decode cX5_sweep 68 = .ok (.iload_n 2, 1) := by decide +kernel
theorem dX5_sweep_69 : decode cX5_sweep 69 = .ok (.aaload, 1) := by decide +kernel
theorem dX5_sweep_70 : decode cX5_sweep 70 = .ok (.iconst 0, 1) := by decide +kernel
theorem dX5_sweep_71 : decode cX5_sweep 71 = .ok (.invokestatic 57, 3) := by decide +kernel
theorem dX5_sweep_74 : decode cX5_sweep 74 = .ok (.aastore, 1) := by decide +kernel
theorem dX5_sweep_75 : decode cX5_sweep 75 = .ok (.aload_n 0, 1) := by decide +kernel
theorem dX5_sweep_76 : decode cX5_sweep 76 = .ok (.dup, 1) := by decide +kernel
theorem dX5_sweep_77 : decode cX5_sweep 77 = .ok (.getfield 40, 3) := by decide +kernel
theorem dX5_sweep_80 : decode cX5_sweep 80 = .ok (.iconst 1, 1) := by decide +kernel
theorem dX5_sweep_81 : decode cX5_sweep 81 = .ok (.iadd, 1) := by decide +kernel
theorem dX5_sweep_82 : decode cX5_sweep 82 = .ok (.putfield 40, 3) := by decide +kernel
theorem dX5_sweep_85 : decode cX5_sweep 85 = .ok (.aload_n 3, 1) := by decide +kernel
theorem dX5_sweep_86 : decode cX5_sweep 86 = .ok (.getfield 47, 3) := by decide +kernel
theorem dX5_sweep_89 : decode cX5_sweep 89 = .ok (.ifCond .le 22, 3) := by decide +kernel
theorem dX5_sweep_92 : decode cX5_sweep 92 = .ok (.aload_n 0, 1) := by decide +kernel
theorem dX5_sweep_93 : decode cX5_sweep 93 = .ok (.getfield 17, 3) := by decide +kernel
theorem dX5_sweep_96 : decode cX5_sweep 96 = .ok (.iload_n 2, 1) := by decide +kernel
theorem dX5_sweep_97 : decode cX5_sweep 97 = .ok (.aload_n 0, 1) := by decide +kernel
theorem dX5_sweep_98 : decode cX5_sweep 98 = .ok (.getfield 17, 3) := by decide +kernel
theorem dX5_sweep_101 : decode cX5_sweep 101 = .ok (.iload_n 2, 1) := by decide +kernel
theorem dX5_sweep_102 : decode cX5_sweep 102 = .ok (.aaload, 1) := by decide +kernel
theorem dX5_sweep_103 : decode cX5_sweep 103 = .ok (.aload_n 3, 1) := by decide +kernel
theorem dX5_sweep_104 : decode cX5_sweep 104 = .ok (.invokestatic 63, 3) := by decide +kernel
theorem dX5_sweep_107 : decode cX5_sweep 107 = .ok (.aastore, 1) := by decide +kernel
theorem dX5_sweep_108 : decode cX5_sweep 108 = .ok (.goto 91, 3) := by decide +kernel
theorem dX5_sweep_111 : decode cX5_sweep 111 = .ok (.aload_n 3, 1) := by decide +kernel
theorem dX5_sweep_112 : decode cX5_sweep 112 = .ok (.getfield 67, 3) := by decide +kernel
theorem dX5_sweep_115 : decode cX5_sweep 115 = .ok (.ifCond .eq 27, 3) := by decide +kernel
theorem dX5_sweep_118 : decode cX5_sweep 118 = .ok (.aload_n 3, 1) := by decide +kernel
theorem dX5_sweep_119 : decode cX5_sweep 119 = .ok (.iconst 0, 1) := by decide +kernel
theorem dX5_sweep_120 : decode cX5_sweep 120 = .ok (.putfield 67, 3) := by decide +kernel
theorem dX5_sweep_123 : decode cX5_sweep 123 = .ok (.aload_n 0, 1) := by decide +kernel
theorem dX5_sweep_124 : decode cX5_sweep 124 = .ok (.getfield 17, 3) := by decide +kernel
theorem dX5_sweep_127 : decode cX5_sweep 127 = .ok (.iconst 1, 1) := by decide +kernel
theorem dX5_sweep_128 : decode cX5_sweep 128 = .ok (.aload_n 0, 1) := by decide +kernel
theorem dX5_sweep_129 : decode cX5_sweep 129 = .ok (.getfield 17, 3) := by decide +kernel
theorem dX5_sweep_132 : decode cX5_sweep 132 = .ok (.iconst 1, 1) := by decide +kernel
theorem dX5_sweep_133 : decode cX5_sweep 133 = .ok (.aaload, 1) := by decide +kernel
theorem dX5_sweep_134 : decode cX5_sweep 134 = .ok (.aload_n 3, 1) := by decide +kernel
theorem dX5_sweep_135 : decode cX5_sweep 135 = .ok (.invokestatic 63, 3) := by decide +kernel
theorem dX5_sweep_138 : decode cX5_sweep 138 = .ok (.aastore, 1) := by decide +kernel
theorem dX5_sweep_139 : decode cX5_sweep 139 = .ok (.goto 60, 3) := by decide +kernel
theorem dX5_sweep_142 : decode cX5_sweep 142 = .ok (.aload_n 0, 1) := by decide +kernel
theorem dX5_sweep_143 : decode cX5_sweep 143 = .ok (.getfield 23, 3) := by decide +kernel
theorem dX5_sweep_146 : decode cX5_sweep 146 = .ok (.iload_n 2, 1) := by decide +kernel
theorem dX5_sweep_147 : decode cX5_sweep 147 = .ok (.aload_n 0, 1) := by decide +kernel
theorem dX5_sweep_148 : decode cX5_sweep 148 = .ok (.getfield 23, 3) := by decide +kernel
theorem dX5_sweep_151 : decode cX5_sweep 151 = .ok (.iload_n 2, 1) := by decide +kernel
theorem dX5_sweep_152 : decode cX5_sweep 152 = .ok (.aaload, 1) := by decide +kernel
theorem dX5_sweep_153 : decode cX5_sweep 153 = .ok (.aload_n 3, 1) := by decide +kernel
theorem dX5_sweep_154 : decode cX5_sweep 154 = .ok (.getfield 50, 3) := by decide +kernel
theorem dX5_sweep_157 : decode cX5_sweep 157 = .ok (.invokestatic 71, 3) := by decide +kernel
theorem dX5_sweep_160 : decode cX5_sweep 160 = .ok (.aastore, 1) := by decide +kernel
theorem dX5_sweep_161 : decode cX5_sweep 161 = .ok (.aload_n 0, 1) := by decide +kernel
theorem dX5_sweep_162 : decode cX5_sweep 162 = .ok (.getfield 23, 3) := by decide +kernel
theorem dX5_sweep_165 : decode cX5_sweep 165 = .ok (.iload_n 2, 1) := by decide +kernel
theorem dX5_sweep_166 : decode cX5_sweep 166 = .ok (.aaload, 1) := by decide +kernel
theorem dX5_sweep_167 : decode cX5_sweep 167 = .ok (.arraylength, 1) := by decide +kernel
theorem dX5_sweep_168 : decode cX5_sweep 168 = .ok (.aload_n 0, 1) := by decide +kernel
theorem dX5_sweep_169 : decode cX5_sweep 169 = .ok (.getfield 7, 3) := by decide +kernel
theorem dX5_sweep_172 : decode cX5_sweep 172 = .ok (.if_icmp .le 22, 3) := by decide +kernel
theorem dX5_sweep_175 : decode cX5_sweep 175 = .ok (.aload_n 0, 1) := by decide +kernel
theorem dX5_sweep_176 : decode cX5_sweep 176 = .ok (.getfield 23, 3) := by decide +kernel
theorem dX5_sweep_179 : decode cX5_sweep 179 = .ok (.iload_n 2, 1) := by decide +kernel
theorem dX5_sweep_180 : decode cX5_sweep 180 = .ok (.aload_n 0, 1) := by decide +kernel
theorem dX5_sweep_181 : decode cX5_sweep 181 = .ok (.getfield 23, 3) := by decide +kernel
theorem dX5_sweep_184 : decode cX5_sweep 184 = .ok (.iload_n 2, 1) := by decide +kernel
theorem dX5_sweep_185 : decode cX5_sweep 185 = .ok (.aaload, 1) := by decide +kernel
theorem dX5_sweep_186 : decode cX5_sweep 186 = .ok (.iconst 0, 1) := by decide +kernel
theorem dX5_sweep_187 : decode cX5_sweep 187 = .ok (.invokestatic 74, 3) := by decide +kernel
theorem dX5_sweep_190 : decode cX5_sweep 190 = .ok (.aastore, 1) := by decide +kernel
theorem dX5_sweep_191 : decode cX5_sweep 191 = .ok (.goto (-30), 3) := by decide +kernel
theorem dX5_sweep_194 : decode cX5_sweep 194 = .ok (.aload_n 3, 1) := by decide +kernel
theorem dX5_sweep_195 : decode cX5_sweep 195 = .ok (.getfield 50, 3) := by decide +kernel
theorem dX5_sweep_198 : decode cX5_sweep 198 = .ok (.ireturn, 1) := by decide +kernel
theorem dX5_sweep_199 : decode cX5_sweep 199 = .ok (.goto (-199), 3) := by decide +kernel
theorem dX5_fetch_0 : decode cX5_fetch 0 = .ok (.aload_n 0, 1) := by decide +kernel
theorem dX5_fetch_1 : decode cX5_fetch 1 = .ok (.iload_n 1, 1) := by decide +kernel
theorem dX5_fetch_2 : decode cX5_fetch 2 = .ok (.invokevirtual 76, 3) := by decide +kernel
theorem dX5_fetch_5 : decode cX5_fetch 5 = .ok (.astore_n 2, 1) := by decide +kernel
theorem dX5_fetch_6 : decode cX5_fetch 6 = .ok (.aload_n 2, 1) := by decide +kernel
theorem dX5_fetch_7 : decode cX5_fetch 7 = .ok (.ifnull 30, 3) := by decide +kernel
theorem dX5_fetch_10 : decode cX5_fetch 10 = .ok (.aload_n 2, 1) := by decide +kernel
theorem dX5_fetch_11 : decode cX5_fetch 11 = .ok (.iconst 1, 1) := by decide +kernel
theorem dX5_fetch_12 : decode cX5_fetch 12 = .ok (.putfield 67, 3) := by decide +kernel
theorem dX5_fetch_15 : decode cX5_fetch 15 = .ok (.aload_n 2, 1) := by decide +kernel
theorem dX5_fetch_16 : decode cX5_fetch 16 = .ok (.dup, 1) := by decide +kernel
theorem dX5_fetch_17 : decode cX5_fetch 17 = .ok (.getfield 80, 3) := by decide +kernel
theorem dX5_fetch_20 : decode cX5_fetch 20 = .ok (.iconst 1, 1) := by decide +kernel
theorem dX5_fetch_21 : decode cX5_fetch 21 = .ok (.iadd, 1) := by decide +kernel
theorem dX5_fetch_22 : decode cX5_fetch 22 = .ok (.putfield 80, 3) := by decide +kernel
theorem dX5_fetch_25 : decode cX5_fetch 25 = .ok (.aload_n 0, 1) := by decide +kernel
theorem dX5_fetch_26 : decode cX5_fetch 26 = .ok (.dup, 1) := by decide +kernel
theorem dX5_fetch_27 : decode cX5_fetch 27 = .ok (.getfield 31, 3) := by decide +kernel
theorem dX5_fetch_30 : decode cX5_fetch 30 = .ok (.iconst 1, 1) := by decide +kernel
theorem dX5_fetch_31 : decode cX5_fetch 31 = .ok (.iadd, 1) := by decide +kernel
theorem dX5_fetch_32 : decode cX5_fetch 32 = .ok (.putfield 31, 3) := by decide +kernel
theorem dX5_fetch_35 : decode cX5_fetch 35 = .ok (.iconst 0, 1) := by decide +kernel
theorem dX5_fetch_36 : decode cX5_fetch 36 = .ok (.ireturn, 1) := by decide +kernel
theorem dX5_fetch_37 : decode cX5_fetch 37 = .ok (.aload_n 0, 1) := by decide +kernel
theorem dX5_fetch_38 : decode cX5_fetch 38 = .ok (.invokevirtual 83, 3) := by decide +kernel
theorem dX5_fetch_41 : decode cX5_fetch 41 = .ok (.aload_n 0, 1) := by decide +kernel
theorem dX5_fetch_42 : decode cX5_fetch 42 = .ok (.getfield 7, 3) := by decide +kernel
theorem dX5_fetch_45 : decode cX5_fetch 45 = .ok (.if_icmp .ne 17, 3) := by decide +kernel
theorem dX5_fetch_48 : decode cX5_fetch 48 = .ok (.aload_n 0, 1) := by decide +kernel
theorem dX5_fetch_49 : decode cX5_fetch 49 = .ok (.invokevirtual 87, 3) := by decide +kernel
theorem dX5_fetch_52 : decode cX5_fetch 52 = .ok (.aload_n 0, 1) := by decide +kernel
theorem dX5_fetch_53 : decode cX5_fetch 53 = .ok (.invokevirtual 83, 3) := by decide +kernel
theorem dX5_fetch_56 : decode cX5_fetch 56 = .ok (.if_icmp .ne 6, 3) := by decide +kernel
theorem dX5_fetch_59 : decode cX5_fetch 59 = .ok (.bipush (-9), 2) := by decide +kernel
theorem dX5_fetch_61 : decode cX5_fetch 61 = .ok (.ireturn, 1) := by decide +kernel
theorem dX5_fetch_62 : decode cX5_fetch 62 = .ok (.aload_n 0, 1) := by decide +kernel
theorem dX5_fetch_63 : decode cX5_fetch 63 = .ok (.dup, 1) := by decide +kernel
theorem dX5_fetch_64 : decode cX5_fetch 64 = .ok (.getfield 34, 3) := by decide +kernel
theorem dX5_fetch_67 : decode cX5_fetch 67 = .ok (.iconst 1, 1) := by decide +kernel
theorem dX5_fetch_68 : decode cX5_fetch 68 = .ok (.iadd, 1) := by decide +kernel
theorem dX5_fetch_69 : decode cX5_fetch 69 = .ok (.putfield 34, 3) := by decide +kernel
theorem dX5_fetch_72 : decode cX5_fetch 72 = .ok (.aload_n 0, 1) := by decide +kernel
theorem dX5_fetch_73 : decode cX5_fetch 73 = .ok (.iload_n 1, 1) := by decide +kernel
theorem dX5_fetch_74 : decode cX5_fetch 74 = .ok (.invokevirtual 90, 3) := by decide +kernel
theorem dX5_fetch_77 : decode cX5_fetch 77 = .ok (.astore_n 3, 1) := by decide +kernel
theorem dX5_fetch_78 : decode cX5_fetch 78 = .ok (.aload_n 3, 1) := by decide +kernel
theorem dX5_fetch_79 : decode cX5_fetch 79 = .ok (.ifnull 126, 3) := by decide +kernel
theorem dX5_fetch_82 : decode cX5_fetch 82 = .ok (.aload_n 0, 1) := by decide +kernel
theorem dX5_fetch_83 : decode cX5_fetch 83 = .ok (.getfield 23, 3) := by decide +kernel
theorem dX5_fetch_86 : decode cX5_fetch 86 = .ok (.iconst 1, 1) := by decide +kernel
theorem dX5_fetch_87 : decode cX5_fetch 87 = .ok (.aload_n 3, 1) := by decide +kernel
theorem dX5_fetch_88 : decode cX5_fetch 88 = .ok (.iconst 0, 1) := by decide +kernel
theorem dX5_fetch_89 : decode cX5_fetch 89 = .ok (.iaload, 1) := by decide +kernel
theorem dX5_fetch_90 : decode cX5_fetch 90 = .ok (.isub, 1) := by decide +kernel
theorem dX5_fetch_91 : decode cX5_fetch 91 = .ok (.aaload, 1) := by decide +kernel
theorem dX5_fetch_92 : decode cX5_fetch 92 = .ok (.arraylength, 1) := by decide +kernel
theorem dX5_fetch_93 : decode cX5_fetch 93 = .ok (.aload_n 0, 1) := by decide +kernel
theorem dX5_fetch_94 : decode cX5_fetch 94 = .ok (.getfield 23, 3) := by decide +kernel
theorem dX5_fetch_97 : decode cX5_fetch 97 = .ok (.aload_n 3, 1) := by decide +kernel
theorem dX5_fetch_98 : decode cX5_fetch 98 = .ok (.iconst 0, 1) := by decide +kernel
theorem dX5_fetch_99 : decode cX5_fetch 99 = .ok (.iaload, 1) := by decide +kernel
theorem dX5_fetch_100 : decode cX5_fetch 100 = .ok (.aaload, 1) := by decide +kernel
theorem dX5_fetch_101 : decode cX5_fetch 101 = .ok (.arraylength, 1) := by decide +kernel
theorem dX5_fetch_102 : decode cX5_fetch 102 = .ok (.idiv, 1) := by decide +kernel
theorem dX5_fetch_103 : decode cX5_fetch 103 = .ok (.istore 4, 2) := by decide +kernel
theorem dX5_fetch_105 : decode cX5_fetch 105 = .ok (.iload 4, 2) := by decide +kernel
theorem dX5_fetch_107 : decode cX5_fetch 107 = .ok (.ifCond .ne 6, 3) := by decide +kernel
theorem dX5_fetch_110 : decode cX5_fetch 110 = .ok (.iconst 1, 1) := by decide +kernel
theorem dX5_fetch_111 : decode cX5_fetch 111 = .ok (.istore 4, 2) := by decide +kernel
theorem dX5_fetch_113 : decode cX5_fetch 113 = .ok (.aload_n 0, 1) := by decide +kernel
theorem dX5_fetch_114 : decode cX5_fetch 114 = .ok (.dup, 1) := by decide +kernel
theorem dX5_fetch_115 : decode cX5_fetch 115 = .ok (.getfield 28, 3) := by decide +kernel
theorem dX5_fetch_118 : decode cX5_fetch 118 = .ok (.aload_n 3, 1) := by decide +kernel
theorem dX5_fetch_119 : decode cX5_fetch 119 = .ok (.iconst 0, 1) := by decide +kernel
theorem dX5_fetch_120 : decode cX5_fetch 120 = .ok (.iaload, 1) := by decide +kernel
theorem dX5_fetch_121 : decode cX5_fetch 121 = .ok (.ifCond .ne 8, 3) := by decide +kernel
theorem dX5_fetch_124 : decode cX5_fetch 124 = .ok (.iload 4, 2) := by decide +kernel
theorem dX5_fetch_126 : decode cX5_fetch 126 = .ok (.goto 6, 3) := by decide +kernel
theorem dX5_fetch_129 : decode cX5_fetch 129 = .ok (.iload 4, 2) := by decide +kernel
theorem dX5_fetch_131 : decode cX5_fetch 131 = .ok (.ineg, 1) := by decide +kernel
theorem dX5_fetch_132 : decode cX5_fetch 132 = .ok (.iadd, 1) := by decide +kernel
theorem dX5_fetch_133 : decode cX5_fetch 133 = .ok (.putfield 28, 3) := by decide +kernel
theorem dX5_fetch_136 : decode cX5_fetch 136 = .ok (.aload_n 0, 1) := by decide +kernel
theorem dX5_fetch_137 : decode cX5_fetch 137 = .ok (.aload_n 0, 1) := by decide +kernel
theorem dX5_fetch_138 : decode cX5_fetch 138 = .ok (.getfield 28, 3) := by decide +kernel
theorem dX5_fetch_141 : decode cX5_fetch 141 = .ok (.ifCond .ge 7, 3) := by decide +kernel
theorem dX5_fetch_144 : decode cX5_fetch 144 = .ok (.iconst 0, 1) := by decide +kernel
theorem dX5_fetch_145 : decode cX5_fetch 145 = .ok (.goto 25, 3) := by decide +kernel
theorem dX5_fetch_148 : decode cX5_fetch 148 = .ok (.aload_n 0, 1) := by decide +kernel
theorem dX5_fetch_149 : decode cX5_fetch 149 = .ok (.getfield 28, 3) := by decide +kernel
theorem dX5_fetch_152 : decode cX5_fetch 152 = .ok (.aload_n 0, 1) := by decide +kernel
theorem dX5_fetch_153 : decode cX5_fetch 153 = .ok (.getfield 7, 3) := by decide +kernel
theorem dX5_fetch_156 : decode cX5_fetch 156 = .ok (.if_icmp .le 10, 3) := by decide +kernel
theorem dX5_fetch_159 : decode cX5_fetch 159 = .ok (.aload_n 0, 1) := by decide +kernel
theorem dX5_fetch_160 : decode cX5_fetch 160 = .ok (.getfield 7, 3) := by decide +kernel
theorem dX5_fetch_163 : decode cX5_fetch 163 = .ok (.goto 7, 3) := by decide +kernel
theorem dX5_fetch_166 : decode cX5_fetch 166 = .ok (.aload_n 0, 1) := by decide +kernel
theorem dX5_fetch_167 : decode cX5_fetch 167 = .ok (.getfield 28, 3) := by decide +kernel
theorem dX5_fetch_170 : decode cX5_fetch 170 = .ok (.putfield 28, 3) := by decide +kernel
theorem dX5_fetch_173 : decode cX5_fetch 173 = .ok (.aload_n 0, 1) := by decide +kernel
theorem dX5_fetch_174 : decode cX5_fetch 174 = .ok (.getfield 23, 3) := by decide +kernel
theorem dX5_fetch_177 : decode cX5_fetch 177 = .ok (.aload_n 3, 1) := by decide +kernel
theorem dX5_fetch_178 : decode cX5_fetch 178 = .ok (.iconst 0, 1) := by decide +kernel
theorem dX5_fetch_179 : decode cX5_fetch 179 = .ok (.iaload, 1) := by decide +kernel
theorem dX5_fetch_180 : decode cX5_fetch 180 = .ok (.aload_n 0, 1) := by decide +kernel
theorem dX5_fetch_181 : decode cX5_fetch 181 = .ok (.getfield 23, 3) := by decide +kernel
theorem dX5_fetch_184 : decode cX5_fetch 184 = .ok (.aload_n 3, 1) := by decide +kernel
theorem dX5_fetch_185 : decode cX5_fetch 185 = .ok (.iconst 0, 1) := by decide +kernel
theorem dX5_fetch_186 : decode cX5_fetch 186 = .ok (.iaload, 1) := by decide +kernel
theorem dX5_fetch_187 : decode cX5_fetch 187 = .ok (.aaload, 1) := by decide +kernel
theorem dX5_fetch_188 : decode cX5_fetch 188 = .ok (.aload_n 3, 1) := by decide +kernel
theorem dX5_fetch_189 : decode cX5_fetch 189 = .ok (.iconst 1, 1) := by decide +kernel
theorem dX5_fetch_190 : decode cX5_fetch 190 = .ok (.iaload, 1) := by decide +kernel
theorem dX5_fetch_191 : decode cX5_fetch 191 = .ok (.invokestatic 74, 3) := by decide +kernel
theorem dX5_fetch_194 : decode cX5_fetch 194 = .ok (.aastore, 1) := by decide +kernel
theorem dX5_fetch_195 : decode cX5_fetch 195 = .ok (.aload_n 0, 1) := by decide +kernel
theorem dX5_fetch_196 : decode cX5_fetch 196 = .ok (.dup, 1) := by decide +kernel
theorem dX5_fetch_197 : decode cX5_fetch 197 = .ok (.getfield 37, 3) := by decide +kernel
theorem dX5_fetch_200 : decode cX5_fetch 200 = .ok (.iconst 1, 1) := by decide +kernel
theorem dX5_fetch_201 : decode cX5_fetch 201 = .ok (.iadd, 1) := by decide +kernel
theorem dX5_fetch_202 : decode cX5_fetch 202 = .ok (.putfield 37, 3) := by decide +kernel
theorem dX5_fetch_205 : decode cX5_fetch 205 = .ok (.aload_n 0, 1) := by decide +kernel
theorem dX5_fetch_206 : decode cX5_fetch 206 = .ok (.invokevirtual 83, 3) := by decide +kernel
theorem dX5_fetch_209 : decode cX5_fetch 209 = .ok (.aload_n 0, 1) := by decide +kernel
theorem dX5_fetch_210 : decode cX5_fetch 210 = .ok (.getfield 7, 3) := by decide +kernel
theorem dX5_fetch_213 : decode cX5_fetch 213 = .ok (.if_icmp .ne 8, 3) := by decide +kernel
theorem dX5_fetch_216 : decode cX5_fetch 216 = .ok (.aload_n 0, 1) := by decide +kernel
theorem dX5_fetch_217 : decode cX5_fetch 217 = .ok (.invokevirtual 94, 3) := by decide +kernel
theorem dX5_fetch_220 : decode cX5_fetch 220 = .ok (.pop, 1) := by decide +kernel
theorem dX5_fetch_221 : decode cX5_fetch 221 = .ok (.aload_n 3, 1) := by decide +kernel
theorem dX5_fetch_222 : decode cX5_fetch 222 = .ok (.ifnonnull 7, 3) := by decide +kernel
theorem dX5_fetch_225 : decode cX5_fetch 225 = .ok (.iconst 0, 1) := by decide +kernel
theorem dX5_fetch_226 : decode cX5_fetch 226 = .ok (.goto 4, 3) := by decide +kernel
theorem dX5_fetch_229 : decode cX5_fetch 229 = .ok (.iconst 1, 1) := by decide +kernel
theorem dX5_fetch_230 : decode cX5_fetch 230 = .ok (.istore 4, 2) := by decide +kernel
theorem dX5_fetch_232 : decode cX5_fetch 232 = .ok (.aload_n 0, 1) := by decide +kernel
theorem dX5_fetch_233 : decode cX5_fetch 233 = .ok (.getfield 17, 3) := by decide +kernel
theorem dX5_fetch_236 : decode cX5_fetch 236 = .ok (.iload 4, 2) := by decide +kernel
theorem dX5_fetch_238 : decode cX5_fetch 238 = .ok (.aload_n 0, 1) := by decide +kernel
theorem dX5_fetch_239 : decode cX5_fetch 239 = .ok (.getfield 17, 3) := by decide +kernel
theorem dX5_fetch_242 : decode cX5_fetch 242 = .ok (.iload 4, 2) := by decide +kernel
theorem dX5_fetch_244 : decode cX5_fetch 244 = .ok (.aaload, 1) := by decide +kernel
theorem dX5_fetch_245 : decode cX5_fetch 245 = .ok (.new 15, 3) := by decide +kernel
theorem dX5_fetch_248 : decode cX5_fetch 248 = .ok (.dup, 1) := by decide +kernel
theorem dX5_fetch_249 : decode cX5_fetch 249 = .ok (.iload_n 1, 1) := by decide +kernel
theorem dX5_fetch_250 : decode cX5_fetch 250 = .ok (.invokespecial 97, 3) := by decide +kernel
theorem dX5_fetch_253 : decode cX5_fetch 253 = .ok (.invokestatic 63, 3) := by decide +kernel
theorem dX5_fetch_256 : decode cX5_fetch 256 = .ok (.aastore, 1) := by decide +kernel
theorem dX5_fetch_257 : decode cX5_fetch 257 = .ok (.aload_n 3, 1) := by decide +kernel
theorem dX5_fetch_258 : decode cX5_fetch 258 = .ok (.ifnonnull 7, 3) := by decide +kernel
theorem dX5_fetch_261 : decode cX5_fetch 261 = .ok (.iconst 1, 1) := by decide +kernel
theorem dX5_fetch_262 : decode cX5_fetch 262 = .ok (.goto 8, 3) := by decide +kernel
theorem dX5_fetch_265 : decode cX5_fetch 265 = .ok (.iconst 2, 1) := by decide +kernel
theorem dX5_fetch_266 : decode cX5_fetch 266 = .ok (.aload_n 3, 1) := by decide +kernel
theorem dX5_fetch_267 : decode cX5_fetch 267 = .ok (.iconst 0, 1) := by decide +kernel
theorem dX5_fetch_268 : decode cX5_fetch 268 = .ok (.iaload, 1) := by decide +kernel
theorem dX5_fetch_269 : decode cX5_fetch 269 = .ok (.iadd, 1) := by decide +kernel
theorem dX5_fetch_270 : decode cX5_fetch 270 = .ok (.ireturn, 1) := by decide +kernel
theorem dX5_fetchAll_0 : decode cX5_fetchAll 0 = .ok (.iconst 0, 1) := by decide +kernel
theorem dX5_fetchAll_1 : decode cX5_fetchAll 1 = .ok (.istore 4, 2) := by decide +kernel
theorem dX5_fetchAll_3 : decode cX5_fetchAll 3 = .ok (.iload_n 1, 1) := by decide +kernel
theorem dX5_fetchAll_4 : decode cX5_fetchAll 4 = .ok (.istore 5, 2) := by decide +kernel
theorem dX5_fetchAll_6 : decode cX5_fetchAll 6 = .ok (.iconst 0, 1) := by decide +kernel
theorem dX5_fetchAll_7 : decode cX5_fetchAll 7 = .ok (.istore 6, 2) := by decide +kernel
theorem dX5_fetchAll_9 : decode cX5_fetchAll 9 = .ok (.iload 6, 2) := by decide +kernel
theorem dX5_fetchAll_11 : decode cX5_fetchAll 11 = .ok (.iload_n 3, 1) := by decide +kernel
theorem dX5_fetchAll_12 : decode cX5_fetchAll 12 = .ok (.if_icmp .ge 37, 3) := by decide +kernel
theorem dX5_fetchAll_15 : decode cX5_fetchAll 15 = .ok (.iload 4, 2) := by decide +kernel
theorem dX5_fetchAll_17 : decode cX5_fetchAll 17 = .ok (.aload_n 0, 1) := by decide +kernel
theorem dX5_fetchAll_18 : decode cX5_fetchAll 18 = .ok (.iload 5, 2) := by decide +kernel
theorem dX5_fetchAll_20 : decode cX5_fetchAll 20 = .ok (.invokevirtual 100, 3) := by decide +kernel
theorem dX5_fetchAll_23 : decode cX5_fetchAll 23 = .ok (.ifCond .ne 7, 3) := by decide +kernel
theorem dX5_fetchAll_26 : decode cX5_fetchAll 26 = .ok (.iconst 1, 1) := by decide +kernel
theorem dX5_fetchAll_27 : decode cX5_fetchAll 27 = .ok (.goto 4, 3) := by decide +kernel
theorem dX5_fetchAll_30 : decode cX5_fetchAll 30 = .ok (.iconst 0, 1) := by decide +kernel
theorem dX5_fetchAll_31 : decode cX5_fetchAll 31 = .ok (.iadd, 1) := by decide +kernel
theorem dX5_fetchAll_32 : decode cX5_fetchAll 32 = .ok (.istore 4, 2) := by decide +kernel
theorem dX5_fetchAll_34 : decode cX5_fetchAll 34 = .ok (.iload 5, 2) := by decide +kernel
theorem dX5_fetchAll_36 : decode cX5_fetchAll 36 = .ok (.iload_n 2, 1) := by decide +kernel
theorem dX5_fetchAll_37 : decode cX5_fetchAll 37 = .ok (.iadd, 1) := by decide +kernel
theorem dX5_fetchAll_38 : decode cX5_fetchAll 38 = .ok (.bipush 40, 2) := by decide +kernel
theorem dX5_fetchAll_40 : decode cX5_fetchAll 40 = .ok (.irem, 1) := by decide +kernel
theorem dX5_fetchAll_41 : decode cX5_fetchAll 41 = .ok (.istore 5, 2) := by decide +kernel
theorem dX5_fetchAll_43 : decode cX5_fetchAll 43 = .ok (.iinc 6 1, 3) := by decide +kernel
theorem dX5_fetchAll_46 : decode cX5_fetchAll 46 = .ok (.goto (-37), 3) := by decide +kernel
theorem dX5_fetchAll_49 : decode cX5_fetchAll 49 = .ok (.iload 4, 2) := by decide +kernel
theorem dX5_fetchAll_51 : decode cX5_fetchAll 51 = .ok (.ireturn, 1) := by decide +kernel
theorem dX5_setPlaces_0 : decode cX5_setPlaces 0 = .ok (.aload_n 0, 1) := by decide +kernel
theorem dX5_setPlaces_1 : decode cX5_setPlaces 1 = .ok (.iload_n 1, 1) := by decide +kernel
theorem dX5_setPlaces_2 : decode cX5_setPlaces 2 = .ok (.putfield 7, 3) := by decide +kernel
theorem dX5_setPlaces_5 : decode cX5_setPlaces 5 = .ok (.aload_n 0, 1) := by decide +kernel
theorem dX5_setPlaces_6 : decode cX5_setPlaces 6 = .ok (.invokevirtual 83, 3) := by decide +kernel
theorem dX5_setPlaces_9 : decode cX5_setPlaces 9 = .ok (.iload_n 1, 1) := by decide +kernel
theorem dX5_setPlaces_10 : decode cX5_setPlaces 10 = .ok (.if_icmp .le 11, 3) := by decide +kernel
theorem dX5_setPlaces_13 : decode cX5_setPlaces 13 = .ok (.aload_n 0, 1) := by decide +kernel
theorem dX5_setPlaces_14 : decode cX5_setPlaces 14 = .ok (.invokevirtual 94, 3) := by decide +kernel
theorem dX5_setPlaces_17 : decode cX5_setPlaces 17 = .ok (.pop, 1) := by decide +kernel
theorem dX5_setPlaces_18 : decode cX5_setPlaces 18 = .ok (.goto (-13), 3) := by decide +kernel
theorem dX5_setPlaces_21 : decode cX5_setPlaces 21 = .ok (.aload_n 0, 1) := by decide +kernel
theorem dX5_setPlaces_22 : decode cX5_setPlaces 22 = .ok (.getfield 28, 3) := by decide +kernel
theorem dX5_setPlaces_25 : decode cX5_setPlaces 25 = .ok (.iload_n 1, 1) := by decide +kernel
theorem dX5_setPlaces_26 : decode cX5_setPlaces 26 = .ok (.if_icmp .le 8, 3) := by decide +kernel
theorem dX5_setPlaces_29 : decode cX5_setPlaces 29 = .ok (.aload_n 0, 1) := by decide +kernel
theorem dX5_setPlaces_30 : decode cX5_setPlaces 30 = .ok (.iload_n 1, 1) := by decide +kernel
theorem dX5_setPlaces_31 : decode cX5_setPlaces 31 = .ok (.putfield 28, 3) := by decide +kernel
theorem dX5_setPlaces_34 : decode cX5_setPlaces 34 = .ok (.iconst 0, 1) := by decide +kernel
theorem dX5_setPlaces_35 : decode cX5_setPlaces 35 = .ok (.istore_n 2, 1) := by decide +kernel
theorem dX5_setPlaces_36 : decode cX5_setPlaces 36 = .ok (.iload_n 2, 1) := by decide +kernel
theorem dX5_setPlaces_37 : decode cX5_setPlaces 37 = .ok (.iconst 2, 1) := by decide +kernel
theorem dX5_setPlaces_38 : decode cX5_setPlaces 38 = .ok (.if_icmp .ge 39, 3) := by decide +kernel
theorem dX5_setPlaces_41 : decode cX5_setPlaces 41 = .ok (.aload_n 0, 1) := by decide +kernel
theorem dX5_setPlaces_42 : decode cX5_setPlaces 42 = .ok (.getfield 23, 3) := by decide +kernel
theorem dX5_setPlaces_45 : decode cX5_setPlaces 45 = .ok (.iload_n 2, 1) := by decide +kernel
theorem dX5_setPlaces_46 : decode cX5_setPlaces 46 = .ok (.aaload, 1) := by decide +kernel
theorem dX5_setPlaces_47 : decode cX5_setPlaces 47 = .ok (.arraylength, 1) := by decide +kernel
theorem dX5_setPlaces_48 : decode cX5_setPlaces 48 = .ok (.iload_n 1, 1) := by decide +kernel
theorem dX5_setPlaces_49 : decode cX5_setPlaces 49 = .ok (.if_icmp .le 22, 3) := by decide +kernel
theorem dX5_setPlaces_52 : decode cX5_setPlaces 52 = .ok (.aload_n 0, 1) := by decide +kernel
theorem dX5_setPlaces_53 : decode cX5_setPlaces 53 = .ok (.getfield 23, 3) := by decide +kernel
theorem dX5_setPlaces_56 : decode cX5_setPlaces 56 = .ok (.iload_n 2, 1) := by decide +kernel
theorem dX5_setPlaces_57 : decode cX5_setPlaces 57 = .ok (.aload_n 0, 1) := by decide +kernel
theorem dX5_setPlaces_58 : decode cX5_setPlaces 58 = .ok (.getfield 23, 3) := by decide +kernel
theorem dX5_setPlaces_61 : decode cX5_setPlaces 61 = .ok (.iload_n 2, 1) := by decide +kernel
theorem dX5_setPlaces_62 : decode cX5_setPlaces 62 = .ok (.aaload, 1) := by decide +kernel
theorem dX5_setPlaces_63 : decode cX5_setPlaces 63 = .ok (.iconst 0, 1) := by decide +kernel
theorem dX5_setPlaces_64 : decode cX5_setPlaces 64 = .ok (.invokestatic 74, 3) := by decide +kernel
theorem dX5_setPlaces_67 : decode cX5_setPlaces 67 = .ok (.aastore, 1) := by decide +kernel
theorem dX5_setPlaces_68 : decode cX5_setPlaces 68 = .ok (.goto (-27), 3) := by decide +kernel
theorem dX5_setPlaces_71 : decode cX5_setPlaces 71 = .ok (.iinc 2 1, 3) := by decide +kernel
theorem dX5_setPlaces_74 : decode cX5_setPlaces 74 = .ok (.goto (-38), 3) := by decide +kernel
theorem dX5_setPlaces_77 : decode cX5_setPlaces 77 = .ok (.return_, 1) := by decide +kernel
theorem dX5_isSame_0 : decode cX5_isSame 0 = .ok (.iconst 0, 1) := by decide +kernel
theorem dX5_isSame_1 : decode cX5_isSame 1 = .ok (.istore_n 2, 1) := by decide +kernel
theorem dX5_isSame_2 : decode cX5_isSame 2 = .ok (.iconst 0, 1) := by decide +kernel
theorem dX5_isSame_3 : decode cX5_isSame 3 = .ok (.istore_n 3, 1) := by decide +kernel
theorem dX5_isSame_4 : decode cX5_isSame 4 = .ok (.iload_n 3, 1) := by decide +kernel
theorem dX5_isSame_5 : decode cX5_isSame 5 = .ok (.bipush 40, 2) := by decide +kernel
theorem dX5_isSame_7 : decode cX5_isSame 7 = .ok (.if_icmp .ge 207, 3) := by decide +kernel
theorem dX5_isSame_10 : decode cX5_isSame 10 = .ok (.iconst 0, 1) := by decide +kernel
theorem dX5_isSame_11 : decode cX5_isSame 11 = .ok (.istore 4, 2) := by decide +kernel
theorem dX5_isSame_13 : decode cX5_isSame 13 = .ok (.iload 4, 2) := by decide +kernel
theorem dX5_isSame_15 : decode cX5_isSame 15 = .ok (.iconst 2, 1) := by decide +kernel
theorem dX5_isSame_16 : decode cX5_isSame 16 = .ok (.if_icmp .ge 156, 3) := by decide +kernel
theorem dX5_isSame_19 : decode cX5_isSame 19 = .ok (.iconst 0, 1) := by decide +kernel
theorem dX5_isSame_20 : decode cX5_isSame 20 = .ok (.istore 5, 2) := by decide +kernel
theorem dX5_isSame_22 : decode cX5_isSame 22 = .ok (.iload 5, 2) := by decide +kernel
theorem dX5_isSame_24 : decode cX5_isSame 24 = .ok (.aload_n 0, 1) := by decide +kernel
theorem dX5_isSame_25 : decode cX5_isSame 25 = .ok (.getfield 17, 3) := by decide +kernel
theorem dX5_isSame_28 : decode cX5_isSame 28 = .ok (.iload 4, 2) := by decide +kernel
theorem dX5_isSame_30 : decode cX5_isSame 30 = .ok (.aaload, 1) := by decide +kernel
theorem dX5_isSame_31 : decode cX5_isSame 31 = .ok (.arraylength, 1) := by decide +kernel
theorem dX5_isSame_32 : decode cX5_isSame 32 = .ok (.if_icmp .ge 134, 3) := by decide +kernel
theorem dX5_isSame_35 : decode cX5_isSame 35 = .ok (.aload_n 0, 1) := by decide +kernel
theorem dX5_isSame_36 : decode cX5_isSame 36 = .ok (.getfield 17, 3) := by decide +kernel
theorem dX5_isSame_39 : decode cX5_isSame 39 = .ok (.iload 4, 2) := by decide +kernel
theorem dX5_isSame_41 : decode cX5_isSame 41 = .ok (.aaload, 1) := by decide +kernel
theorem dX5_isSame_42 : decode cX5_isSame 42 = .ok (.iload 5, 2) := by decide +kernel
theorem dX5_isSame_44 : decode cX5_isSame 44 = .ok (.aaload, 1) := by decide +kernel
theorem dX5_isSame_45 : decode cX5_isSame 45 = .ok (.astore 6, 2) := by decide +kernel
theorem dX5_isSame_47 : decode cX5_isSame 47 = .ok (.aload 6, 2) := by decide +kernel
theorem dX5_isSame_49 : decode cX5_isSame 49 = .ok (.getfield 50, 3) := by decide +kernel
theorem dX5_isSame_52 : decode cX5_isSame 52 = .ok (.iload_n 3, 1) := by decide +kernel
theorem dX5_isSame_53 : decode cX5_isSame 53 = .ok (.if_icmp .eq 6, 3) := by decide +kernel
theorem dX5_isSame_56 : decode cX5_isSame 56 = .ok (.goto 104, 3) := by decide +kernel
theorem dX5_isSame_59 : decode cX5_isSame 59 = .ok (.iconst 5, 1) := by decide +kernel
theorem dX5_isSame_60 : decode cX5_isSame 60 = .ok (.newarray .int, 2) := by decide +kernel
theorem dX5_isSame_62 : decode cX5_isSame 62 = .ok (.dup, 1) := by decide +kernel
theorem dX5_isSame_63 : decode cX5_isSame 63 = .ok (.iconst 0, 1) := by decide +kernel
theorem dX5_isSame_64 : decode cX5_isSame 64 = .ok (.iload 4, 2) := by decide +kernel
theorem dX5_isSame_66 : decode cX5_isSame 66 = .ok (.iastore, 1) := by decide +kernel
theorem dX5_isSame_67 : decode cX5_isSame 67 = .ok (.dup, 1) := by decide +kernel
theorem dX5_isSame_68 : decode cX5_isSame 68 = .ok (.iconst 1, 1) := by decide +kernel
theorem dX5_isSame_69 : decode cX5_isSame 69 = .ok (.iload 5, 2) := by decide +kernel
theorem dX5_isSame_71 : decode cX5_isSame 71 = .ok (.iastore, 1) := by decide +kernel
theorem dX5_isSame_72 : decode cX5_isSame 72 = .ok (.dup, 1) := by decide +kernel
theorem dX5_isSame_73 : decode cX5_isSame 73 = .ok (.iconst 2, 1) := by decide +kernel
theorem dX5_isSame_74 : decode cX5_isSame 74 = .ok (.aload 6, 2) := by decide +kernel
theorem dX5_isSame_76 : decode cX5_isSame 76 = .ok (.getfield 67, 3) := by decide +kernel
theorem dX5_isSame_79 : decode cX5_isSame 79 = .ok (.ifCond .eq 7, 3) := by decide +kernel
theorem dX5_isSame_82 : decode cX5_isSame 82 = .ok (.iconst 1, 1) := by decide +kernel
theorem dX5_isSame_83 : decode cX5_isSame 83 = .ok (.goto 4, 3) := by decide +kernel
theorem dX5_isSame_86 : decode cX5_isSame 86 = .ok (.iconst 0, 1) := by decide +kernel
theorem dX5_isSame_87 : decode cX5_isSame 87 = .ok (.iastore, 1) := by decide +kernel
theorem dX5_isSame_88 : decode cX5_isSame 88 = .ok (.dup, 1) := by decide +kernel
theorem dX5_isSame_89 : decode cX5_isSame 89 = .ok (.iconst 3, 1) := by decide +kernel
theorem dX5_isSame_90 : decode cX5_isSame 90 = .ok (.aload 6, 2) := by decide +kernel
theorem dX5_isSame_92 : decode cX5_isSame 92 = .ok (.getfield 47, 3) := by decide +kernel
theorem dX5_isSame_95 : decode cX5_isSame 95 = .ok (.iastore, 1) := by decide +kernel
theorem dX5_isSame_96 : decode cX5_isSame 96 = .ok (.dup, 1) := by decide +kernel
