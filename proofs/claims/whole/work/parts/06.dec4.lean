theorem dX4_init_0 : decode cX4_init 0 = .ok (.aload_n 0, 1) := by decide +kernel
theorem dX4_init_1 : decode cX4_init 1 = .ok (.invokespecial 3, 3) := by decide +kernel
theorem dX4_init_4 : decode cX4_init 4 = .ok (.aload_n 0, 1) := by decide +kernel
theorem dX4_init_5 : decode cX4_init 5 = .ok (.new 9, 3) := by decide +kernel
theorem dX4_init_8 : decode cX4_init 8 = .ok (.dup, 1) := by decide +kernel
theorem dX4_init_9 : decode cX4_init 9 = .ok (.invokespecial 11, 3) := by decide +kernel
theorem dX4_init_12 : decode cX4_init 12 = .ok (.putfield 12, 3) := by decide +kernel
theorem dX4_init_15 : decode cX4_init 15 = .ok (.aload_n 0, 1) := by decide +kernel
theorem dX4_init_16 : decode cX4_init 16 = .ok (.new 9, 3) := by decide +kernel
theorem dX4_init_19 : decode cX4_init 19 = .ok (.dup, 1) := by decide +kernel
theorem dX4_init_20 : decode cX4_init 20 = .ok (.invokespecial 11, 3) := by decide +kernel
theorem dX4_init_23 : decode cX4_init 23 = .ok (.putfield 16, 3) := by decide +kernel
theorem dX4_init_26 : decode cX4_init 26 = .ok (.aload_n 0, 1) := by decide +kernel
theorem dX4_init_27 : decode cX4_init 27 = .ok (.new 19, 3) := by decide +kernel
theorem dX4_init_30 : decode cX4_init 30 = .ok (.dup, 1) := by decide +kernel
theorem dX4_init_31 : decode cX4_init 31 = .ok (.invokespecial 21, 3) := by decide +kernel
theorem dX4_init_34 : decode cX4_init 34 = .ok (.putfield 22, 3) := by decide +kernel
theorem dX4_init_37 : decode cX4_init 37 = .ok (.aload_n 0, 1) := by decide +kernel
theorem dX4_init_38 : decode cX4_init 38 = .ok (.new 26, 3) := by decide +kernel
theorem dX4_init_41 : decode cX4_init 41 = .ok (.dup, 1) := by decide +kernel
theorem dX4_init_42 : decode cX4_init 42 = .ok (.invokespecial 28, 3) := by decide +kernel
theorem dX4_init_45 : decode cX4_init 45 = .ok (.putfield 29, 3) := by decide +kernel
theorem dX4_init_48 : decode cX4_init 48 = .ok (.return_, 1) := by decide +kernel
theorem dX4_point_0 : decode cX4_point 0 = .ok (.iload_n 1, 1) := by decide +kernel
theorem dX4_point_1 : decode cX4_point 1 = .ok (.invokestatic 33, 3) := by decide +kernel
theorem dX4_point_4 : decode cX4_point 4 = .ok (.iload_n 2, 1) := by decide +kernel
theorem dX4_point_5 : decode cX4_point 5 = .ok (.invokestatic 33, 3) := by decide +kernel
theorem dX4_point_8 : decode cX4_point 8 = .ok (.aload_n 0, 1) := by decide +kernel
theorem dX4_point_9 : decode cX4_point 9 = .ok (.getfield 37, 3) := by decide +kernel
theorem dX4_point_12 : decode cX4_point 12 = .ok (.bipush 16, 2) := by decide +kernel
theorem dX4_point_14 : decode cX4_point 14 = .ok (.if_icmp .lt 13, 3) := by decide +kernel
theorem dX4_point_17 : decode cX4_point 17 = .ok (.new 41, 3) := by decide +kernel
theorem dX4_point_20 : decode cX4_point 20 = .ok (.dup, 1) := by decide +kernel
theorem dX4_point_21 : decode cX4_point 21 = .ok (.ldc 43, 2) := by decide +kernel
theorem dX4_point_23 : decode cX4_point 23 = .ok (.invokespecial 45, 3) := by decide +kernel
theorem dX4_point_26 : decode cX4_point 26 = .ok (.athrow, 1) := by decide +kernel
theorem dX4_point_27 : decode cX4_point 27 = .ok (.aload_n 0, 1) := by decide +kernel
theorem dX4_point_28 : decode cX4_point 28 = .ok (.getfield 37, 3) := by decide +kernel
theorem dX4_point_31 : decode cX4_point 31 = .ok (.istore_n 3, 1) := by decide +kernel
theorem dX4_point_32 : decode cX4_point 32 = .ok (.aload_n 0, 1) := by decide +kernel
theorem dX4_point_33 : decode cX4_point 33 = .ok (.dup, 1) := by decide +kernel
theorem dX4_point_34 : decode cX4_point 34 = .ok (.getfield 37, 3) := by decide +kernel
theorem dX4_point_37 : decode cX4_point 37 = .ok (.iconst 1, 1) := by decide +kernel
theorem dX4_point_38 : decode cX4_point 38 = .ok (.iadd, 1) := by decide +kernel
theorem dX4_point_39 : decode cX4_point 39 = .ok (.putfield 37, 3) := by decide +kernel
theorem dX4_point_42 : decode cX4_point 42 = .ok (.aload_n 0, 1) := by decide +kernel
theorem dX4_point_43 : decode cX4_point 43 = .ok (.iload_n 3, 1) := by decide +kernel
theorem dX4_point_44 : decode cX4_point 44 = .ok (.iload_n 1, 1) := by decide +kernel
theorem dX4_point_45 : decode cX4_point 45 = .ok (.iload_n 2, 1) := by decide +kernel
theorem dX4_point_46 : decode cX4_point 46 = .ok (.invokevirtual 48, 3) := by decide +kernel
theorem dX4_point_49 : decode cX4_point 49 = .ok (.iload_n 3, 1) := by decide +kernel
theorem dX4_point_50 : decode cX4_point 50 = .ok (.ireturn, 1) := by decide +kernel
theorem dX4_hint_0 : decode cX4_hint 0 = .ok (.aload_n 0, 1) := by decide +kernel
theorem dX4_hint_1 : decode cX4_hint 1 = .ok (.iload_n 1, 1) := by decide +kernel
theorem dX4_hint_2 : decode cX4_hint 2 = .ok (.invokevirtual 52, 3) := by decide +kernel
theorem dX4_hint_5 : decode cX4_hint 5 = .ok (.iload_n 2, 1) := by decide +kernel
theorem dX4_hint_6 : decode cX4_hint 6 = .ok (.invokestatic 33, 3) := by decide +kernel
theorem dX4_hint_9 : decode cX4_hint 9 = .ok (.iload_n 3, 1) := by decide +kernel
theorem dX4_hint_10 : decode cX4_hint 10 = .ok (.invokestatic 33, 3) := by decide +kernel
theorem dX4_hint_13 : decode cX4_hint 13 = .ok (.aload_n 0, 1) := by decide +kernel
theorem dX4_hint_14 : decode cX4_hint 14 = .ok (.iload_n 1, 1) := by decide +kernel
theorem dX4_hint_15 : decode cX4_hint 15 = .ok (.iload_n 2, 1) := by decide +kernel
theorem dX4_hint_16 : decode cX4_hint 16 = .ok (.iload_n 3, 1) := by decide +kernel
theorem dX4_hint_17 : decode cX4_hint 17 = .ok (.invokevirtual 48, 3) := by decide +kernel
theorem dX4_hint_20 : decode cX4_hint 20 = .ok (.return_, 1) := by decide +kernel
theorem dX4_wish_0 : decode cX4_wish 0 = .ok (.iload_n 1, 1) := by decide +kernel
theorem dX4_wish_1 : decode cX4_wish 1 = .ok (.ifCond .lt 8, 3) := by decide +kernel
theorem dX4_wish_4 : decode cX4_wish 4 = .ok (.iload_n 1, 1) := by decide +kernel
theorem dX4_wish_5 : decode cX4_wish 5 = .ok (.iconst 2, 1) := by decide +kernel
theorem dX4_wish_6 : decode cX4_wish 6 = .ok (.if_icmp .le 13, 3) := by decide +kernel
theorem dX4_wish_9 : decode cX4_wish 9 = .ok (.new 55, 3) := by decide +kernel
theorem dX4_wish_12 : decode cX4_wish 12 = .ok (.dup, 1) := by decide +kernel
theorem dX4_wish_13 : decode cX4_wish 13 = .ok (.ldc 57, 2) := by decide +kernel
theorem dX4_wish_15 : decode cX4_wish 15 = .ok (.invokespecial 59, 3) := by decide +kernel
theorem dX4_wish_18 : decode cX4_wish 18 = .ok (.athrow, 1) := by decide +kernel
theorem dX4_wish_19 : decode cX4_wish 19 = .ok (.iload_n 1, 1) := by decide +kernel
theorem dX4_wish_20 : decode cX4_wish 20 = .ok (.iconst 2, 1) := by decide +kernel
theorem dX4_wish_21 : decode cX4_wish 21 = .ok (.if_icmp .eq 23, 3) := by decide +kernel
theorem dX4_wish_24 : decode cX4_wish 24 = .ok (.iload 4, 2) := by decide +kernel
theorem dX4_wish_26 : decode cX4_wish 26 = .ok (.invokestatic 33, 3) := by decide +kernel
theorem dX4_wish_29 : decode cX4_wish 29 = .ok (.iload_n 2, 1) := by decide +kernel
theorem dX4_wish_30 : decode cX4_wish 30 = .ok (.iload_n 3, 1) := by decide +kernel
theorem dX4_wish_31 : decode cX4_wish 31 = .ok (.if_icmp .ne 13, 3) := by decide +kernel
theorem dX4_wish_34 : decode cX4_wish 34 = .ok (.new 55, 3) := by decide +kernel
theorem dX4_wish_37 : decode cX4_wish 37 = .ok (.dup, 1) := by decide +kernel
theorem dX4_wish_38 : decode cX4_wish 38 = .ok (.ldc 60, 2) := by decide +kernel
theorem dX4_wish_40 : decode cX4_wish 40 = .ok (.invokespecial 59, 3) := by decide +kernel
theorem dX4_wish_43 : decode cX4_wish 43 = .ok (.athrow, 1) := by decide +kernel
theorem dX4_wish_44 : decode cX4_wish 44 = .ok (.aload_n 0, 1) := by decide +kernel
theorem dX4_wish_45 : decode cX4_wish 45 = .ok (.iload_n 2, 1) := by decide +kernel
theorem dX4_wish_46 : decode cX4_wish 46 = .ok (.invokevirtual 52, 3) := by decide +kernel
theorem dX4_wish_49 : decode cX4_wish 49 = .ok (.iload_n 1, 1) := by decide +kernel
theorem dX4_wish_50 : decode cX4_wish 50 = .ok (.iconst 2, 1) := by decide +kernel
theorem dX4_wish_51 : decode cX4_wish 51 = .ok (.if_icmp .eq 8, 3) := by decide +kernel
theorem dX4_wish_54 : decode cX4_wish 54 = .ok (.aload_n 0, 1) := by decide +kernel
theorem dX4_wish_55 : decode cX4_wish 55 = .ok (.iload_n 3, 1) := by decide +kernel
theorem dX4_wish_56 : decode cX4_wish 56 = .ok (.invokevirtual 52, 3) := by decide +kernel
theorem dX4_wish_59 : decode cX4_wish 59 = .ok (.aload_n 0, 1) := by decide +kernel
theorem dX4_wish_60 : decode cX4_wish 60 = .ok (.getfield 22, 3) := by decide +kernel
theorem dX4_wish_63 : decode cX4_wish 63 = .ok (.getfield 62, 3) := by decide +kernel
theorem dX4_wish_66 : decode cX4_wish 66 = .ok (.bipush 40, 2) := by decide +kernel
theorem dX4_wish_68 : decode cX4_wish 68 = .ok (.if_icmp .lt 13, 3) := by decide +kernel
theorem dX4_wish_71 : decode cX4_wish 71 = .ok (.new 41, 3) := by decide +kernel
theorem dX4_wish_74 : decode cX4_wish 74 = .ok (.dup, 1) := by decide +kernel
theorem dX4_wish_75 : decode cX4_wish 75 = .ok (.ldc 65, 2) := by decide +kernel
theorem dX4_wish_77 : decode cX4_wish 77 = .ok (.invokespecial 45, 3) := by decide +kernel
theorem dX4_wish_80 : decode cX4_wish 80 = .ok (.athrow, 1) := by decide +kernel
theorem dX4_wish_81 : decode cX4_wish 81 = .ok (.aload_n 0, 1) := by decide +kernel
theorem dX4_wish_82 : decode cX4_wish 82 = .ok (.iconst 0, 1) := by decide +kernel
theorem dX4_wish_83 : decode cX4_wish 83 = .ok (.putfield 67, 3) := by decide +kernel
theorem dX4_wish_86 : decode cX4_wish 86 = .ok (.iload_n 1, 1) := by decide +kernel
theorem dX4_wish_87 : decode cX4_wish 87 = .ok (.iconst 2, 1) := by decide +kernel
theorem dX4_wish_88 : decode cX4_wish 88 = .ok (.if_icmp .ne 17, 3) := by decide +kernel
theorem dX4_wish_91 : decode cX4_wish 91 = .ok (.aload_n 0, 1) := by decide +kernel
theorem dX4_wish_92 : decode cX4_wish 92 = .ok (.getfield 22, 3) := by decide +kernel
theorem dX4_wish_95 : decode cX4_wish 95 = .ok (.iload_n 1, 1) := by decide +kernel
theorem dX4_wish_96 : decode cX4_wish 96 = .ok (.iload_n 2, 1) := by decide +kernel
theorem dX4_wish_97 : decode cX4_wish 97 = .ok (.iload_n 2, 1) := by decide +kernel
theorem dX4_wish_98 : decode cX4_wish 98 = .ok (.iconst 0, 1) := by decide +kernel
theorem dX4_wish_99 : decode cX4_wish 99 = .ok (.invokevirtual 71, 3) := by decide +kernel
theorem dX4_wish_102 : decode cX4_wish 102 = .ok (.goto 15, 3) := by decide +kernel
theorem dX4_wish_105 : decode cX4_wish 105 = .ok (.aload_n 0, 1) := by decide +kernel
theorem dX4_wish_106 : decode cX4_wish 106 = .ok (.getfield 22, 3) := by decide +kernel
theorem dX4_wish_109 : decode cX4_wish 109 = .ok (.iload_n 1, 1) := by decide +kernel
theorem dX4_wish_110 : decode cX4_wish 110 = .ok (.iload_n 2, 1) := by decide +kernel
theorem dX4_wish_111 : decode cX4_wish 111 = .ok (.iload_n 3, 1) := by decide +kernel
theorem dX4_wish_112 : decode cX4_wish 112 = .ok (.iload 4, 2) := by decide +kernel
theorem dX4_wish_114 : decode cX4_wish 114 = .ok (.invokevirtual 71, 3) := by decide +kernel
theorem dX4_wish_117 : decode cX4_wish 117 = .ok (.ireturn, 1) := by decide +kernel
theorem dX4_remove_0 : decode cX4_remove 0 = .ok (.aload_n 0, 1) := by decide +kernel
theorem dX4_remove_1 : decode cX4_remove 1 = .ok (.iload_n 1, 1) := by decide +kernel
theorem dX4_remove_2 : decode cX4_remove 2 = .ok (.invokevirtual 75, 3) := by decide +kernel
theorem dX4_remove_5 : decode cX4_remove 5 = .ok (.aload_n 0, 1) := by decide +kernel
theorem dX4_remove_6 : decode cX4_remove 6 = .ok (.invokevirtual 78, 3) := by decide +kernel
theorem dX4_remove_9 : decode cX4_remove 9 = .ok (.aload_n 0, 1) := by decide +kernel
theorem dX4_remove_10 : decode cX4_remove 10 = .ok (.getfield 22, 3) := by decide +kernel
theorem dX4_remove_13 : decode cX4_remove 13 = .ok (.getfield 81, 3) := by decide +kernel
theorem dX4_remove_16 : decode cX4_remove 16 = .ok (.iload_n 1, 1) := by decide +kernel
theorem dX4_remove_17 : decode cX4_remove 17 = .ok (.iaload, 1) := by decide +kernel
theorem dX4_remove_18 : decode cX4_remove 18 = .ok (.istore_n 2, 1) := by decide +kernel
theorem dX4_remove_19 : decode cX4_remove 19 = .ok (.aload_n 0, 1) := by decide +kernel
theorem dX4_remove_20 : decode cX4_remove 20 = .ok (.getfield 22, 3) := by decide +kernel
theorem dX4_remove_23 : decode cX4_remove 23 = .ok (.iload_n 1, 1) := by decide +kernel
theorem dX4_remove_24 : decode cX4_remove 24 = .ok (.invokevirtual 85, 3) := by decide +kernel
theorem dX4_remove_27 : decode cX4_remove 27 = .ok (.aload_n 0, 1) := by decide +kernel
theorem dX4_remove_28 : decode cX4_remove 28 = .ok (.iconst 0, 1) := by decide +kernel
theorem dX4_remove_29 : decode cX4_remove 29 = .ok (.putfield 67, 3) := by decide +kernel
theorem dX4_remove_32 : decode cX4_remove 32 = .ok (.iload_n 2, 1) := by decide +kernel
theorem dX4_remove_33 : decode cX4_remove 33 = .ok (.ireturn, 1) := by decide +kernel
theorem dX4_type_0 : decode cX4_type 0 = .ok (.aload_n 0, 1) := by decide +kernel
theorem dX4_type_1 : decode cX4_type 1 = .ok (.iload_n 1, 1) := by decide +kernel
theorem dX4_type_2 : decode cX4_type 2 = .ok (.invokevirtual 75, 3) := by decide +kernel
theorem dX4_type_5 : decode cX4_type 5 = .ok (.aload_n 0, 1) := by decide +kernel
theorem dX4_type_6 : decode cX4_type 6 = .ok (.iload_n 1, 1) := by decide +kernel
theorem dX4_type_7 : decode cX4_type 7 = .ok (.invokevirtual 88, 3) := by decide +kernel
theorem dX4_type_10 : decode cX4_type 10 = .ok (.iload_n 2, 1) := by decide +kernel
theorem dX4_type_11 : decode cX4_type 11 = .ok (.invokestatic 33, 3) := by decide +kernel
theorem dX4_type_14 : decode cX4_type 14 = .ok (.aload_n 0, 1) := by decide +kernel
theorem dX4_type_15 : decode cX4_type 15 = .ok (.getfield 22, 3) := by decide +kernel
theorem dX4_type_18 : decode cX4_type 18 = .ok (.getfield 91, 3) := by decide +kernel
theorem dX4_type_21 : decode cX4_type 21 = .ok (.iload_n 1, 1) := by decide +kernel
theorem dX4_type_22 : decode cX4_type 22 = .ok (.iaload, 1) := by decide +kernel
theorem dX4_type_23 : decode cX4_type 23 = .ok (.istore_n 3, 1) := by decide +kernel
theorem dX4_type_24 : decode cX4_type 24 = .ok (.aload_n 0, 1) := by decide +kernel
theorem dX4_type_25 : decode cX4_type 25 = .ok (.getfield 22, 3) := by decide +kernel
theorem dX4_type_28 : decode cX4_type 28 = .ok (.getfield 91, 3) := by decide +kernel
theorem dX4_type_31 : decode cX4_type 31 = .ok (.iload_n 1, 1) := by decide +kernel
theorem dX4_type_32 : decode cX4_type 32 = .ok (.iload_n 2, 1) := by decide +kernel
theorem dX4_type_33 : decode cX4_type 33 = .ok (.iastore, 1) := by decide +kernel
theorem dX4_type_34 : decode cX4_type 34 = .ok (.aload_n 0, 1) := by decide +kernel
theorem dX4_type_35 : decode cX4_type 35 = .ok (.iconst 0, 1) := by decide +kernel
theorem dX4_type_36 : decode cX4_type 36 = .ok (.putfield 67, 3) := by decide +kernel
theorem dX4_type_39 : decode cX4_type 39 = .ok (.iload_n 3, 1) := by decide +kernel
theorem dX4_type_40 : decode cX4_type 40 = .ok (.ireturn, 1) := by decide +kernel
theorem dX4_state_0 : decode cX4_state 0 = .ok (.aload_n 0, 1) := by decide +kernel
theorem dX4_state_1 : decode cX4_state 1 = .ok (.iload_n 1, 1) := by decide +kernel
theorem dX4_state_2 : decode cX4_state 2 = .ok (.invokevirtual 75, 3) := by decide +kernel
theorem dX4_state_5 : decode cX4_state 5 = .ok (.aload_n 0, 1) := by decide +kernel
theorem dX4_state_6 : decode cX4_state 6 = .ok (.invokevirtual 78, 3) := by decide +kernel
theorem dX4_state_9 : decode cX4_state 9 = .ok (.aload_n 0, 1) := by decide +kernel
theorem dX4_state_10 : decode cX4_state 10 = .ok (.getfield 22, 3) := by decide +kernel
theorem dX4_state_13 : decode cX4_state 13 = .ok (.getfield 81, 3) := by decide +kernel
theorem dX4_state_16 : decode cX4_state 16 = .ok (.iload_n 1, 1) := by decide +kernel
theorem dX4_state_17 : decode cX4_state 17 = .ok (.iaload, 1) := by decide +kernel
theorem dX4_state_18 : decode cX4_state 18 = .ok (.ireturn, 1) := by decide +kernel
theorem dX4_wishes_0 : decode cX4_wishes 0 = .ok (.aload_n 0, 1) := by decide +kernel
theorem dX4_wishes_1 : decode cX4_wishes 1 = .ok (.getfield 22, 3) := by decide +kernel
theorem dX4_wishes_4 : decode cX4_wishes 4 = .ok (.getfield 62, 3) := by decide +kernel
theorem dX4_wishes_7 : decode cX4_wishes 7 = .ok (.ireturn, 1) := by decide +kernel
theorem dX4_freedom_0 : decode cX4_freedom 0 = .ok (.aload_n 0, 1) := by decide +kernel
theorem dX4_freedom_1 : decode cX4_freedom 1 = .ok (.invokevirtual 78, 3) := by decide +kernel
theorem dX4_freedom_4 : decode cX4_freedom 4 = .ok (.aload_n 0, 1) := by decide +kernel
theorem dX4_freedom_5 : decode cX4_freedom 5 = .ok (.getfield 12, 3) := by decide +kernel
theorem dX4_freedom_8 : decode cX4_freedom 8 = .ok (.getfield 94, 3) := by decide +kernel
theorem dX4_freedom_11 : decode cX4_freedom 11 = .ok (.aload_n 0, 1) := by decide +kernel
theorem dX4_freedom_12 : decode cX4_freedom 12 = .ok (.getfield 16, 3) := by decide +kernel
theorem dX4_freedom_15 : decode cX4_freedom 15 = .ok (.getfield 94, 3) := by decide +kernel
theorem dX4_freedom_18 : decode cX4_freedom 18 = .ok (.iadd, 1) := by decide +kernel
theorem dX4_freedom_19 : decode cX4_freedom 19 = .ok (.ireturn, 1) := by decide +kernel
theorem dX4_x_0 : decode cX4_x 0 = .ok (.aload_n 0, 1) := by decide +kernel
theorem dX4_x_1 : decode cX4_x 1 = .ok (.iload_n 1, 1) := by decide +kernel
theorem dX4_x_2 : decode cX4_x 2 = .ok (.invokevirtual 52, 3) := by decide +kernel
theorem dX4_x_5 : decode cX4_x 5 = .ok (.aload_n 0, 1) := by decide +kernel
theorem dX4_x_6 : decode cX4_x 6 = .ok (.invokevirtual 78, 3) := by decide +kernel
theorem dX4_x_9 : decode cX4_x 9 = .ok (.aload_n 0, 1) := by decide +kernel
theorem dX4_x_10 : decode cX4_x 10 = .ok (.getfield 12, 3) := by decide +kernel
theorem dX4_x_13 : decode cX4_x 13 = .ok (.iload_n 1, 1) := by decide +kernel
theorem dX4_x_14 : decode cX4_x 14 = .ok (.invokevirtual 97, 3) := by decide +kernel
theorem dX4_x_17 : decode cX4_x 17 = .ok (.ireturn, 1) := by decide +kernel
theorem dX4_y_0 : decode cX4_y 0 = .ok (.aload_n 0, 1) := by decide +kernel
theorem dX4_y_1 : decode cX4_y 1 = .ok (.iload_n 1, 1) := by decide +kernel
theorem dX4_y_2 : decode cX4_y 2 = .ok (.invokevirtual 52, 3) := by decide +kernel
theorem dX4_y_5 : decode cX4_y 5 = .ok (.aload_n 0, 1) := by decide +kernel
theorem dX4_y_6 : decode cX4_y 6 = .ok (.invokevirtual 78, 3) := by decide +kernel
theorem dX4_y_9 : decode cX4_y 9 = .ok (.aload_n 0, 1) := by decide +kernel
theorem dX4_y_10 : decode cX4_y 10 = .ok (.getfield 16, 3) := by decide +kernel
theorem dX4_y_13 : decode cX4_y 13 = .ok (.iload_n 1, 1) := by decide +kernel
theorem dX4_y_14 : decode cX4_y 14 = .ok (.invokevirtual 97, 3) := by decide +kernel
theorem dX4_y_17 : decode cX4_y 17 = .ok (.ireturn, 1) := by decide +kernel
theorem dX4_tell_0 : decode cX4_tell 0 = .ok (.iload_n 1, 1) := by decide +kernel
theorem dX4_tell_1 : decode cX4_tell 1 = .ok (.invokestatic 101, 3) := by decide +kernel
theorem dX4_tell_4 : decode cX4_tell 4 = .ok (.iload_n 3, 1) := by decide +kernel
theorem dX4_tell_5 : decode cX4_tell 5 = .ok (.invokestatic 33, 3) := by decide +kernel
theorem dX4_tell_8 : decode cX4_tell 8 = .ok (.aload_n 0, 1) := by decide +kernel
theorem dX4_tell_9 : decode cX4_tell 9 = .ok (.iload_n 2, 1) := by decide +kernel
theorem dX4_tell_10 : decode cX4_tell 10 = .ok (.invokevirtual 75, 3) := by decide +kernel
theorem dX4_tell_13 : decode cX4_tell 13 = .ok (.aload_n 0, 1) := by decide +kernel
theorem dX4_tell_14 : decode cX4_tell 14 = .ok (.iload_n 2, 1) := by decide +kernel
theorem dX4_tell_15 : decode cX4_tell 15 = .ok (.invokevirtual 88, 3) := by decide +kernel
theorem dX4_tell_18 : decode cX4_tell 18 = .ok (.aload_n 0, 1) := by decide +kernel
theorem dX4_tell_19 : decode cX4_tell 19 = .ok (.getfield 22, 3) := by decide +kernel
theorem dX4_tell_22 : decode cX4_tell 22 = .ok (.getfield 104, 3) := by decide +kernel
theorem dX4_tell_25 : decode cX4_tell 25 = .ok (.iload_n 1, 1) := by decide +kernel
theorem dX4_tell_26 : decode cX4_tell 26 = .ok (.aaload, 1) := by decide +kernel
theorem dX4_tell_27 : decode cX4_tell 27 = .ok (.iload_n 2, 1) := by decide +kernel
theorem dX4_tell_28 : decode cX4_tell 28 = .ok (.iload_n 3, 1) := by decide +kernel
theorem dX4_tell_29 : decode cX4_tell 29 = .ok (.iastore, 1) := by decide +kernel
theorem dX4_tell_30 : decode cX4_tell 30 = .ok (.aload_n 0, 1) := by decide +kernel
theorem dX4_tell_31 : decode cX4_tell 31 = .ok (.getfield 22, 3) := by decide +kernel
theorem dX4_tell_34 : decode cX4_tell 34 = .ok (.iload_n 1, 1) := by decide +kernel
theorem dX4_tell_35 : decode cX4_tell 35 = .ok (.invokevirtual 108, 3) := by decide +kernel
theorem dX4_tell_38 : decode cX4_tell 38 = .ok (.ireturn, 1) := by decide +kernel
theorem dX4_choose_0 : decode cX4_choose 0 = .ok (.iload_n 1, 1) := by decide +kernel
theorem dX4_choose_1 : decode cX4_choose 1 = .ok (.invokestatic 101, 3) := by decide +kernel
theorem dX4_choose_4 : decode cX4_choose 4 = .ok (.aload_n 0, 1) := by decide +kernel
theorem dX4_choose_5 : decode cX4_choose 5 = .ok (.iconst 0, 1) := by decide +kernel
theorem dX4_choose_6 : decode cX4_choose 6 = .ok (.putfield 67, 3) := by decide +kernel
theorem dX4_choose_9 : decode cX4_choose 9 = .ok (.aload_n 0, 1) := by decide +kernel
theorem dX4_choose_10 : decode cX4_choose 10 = .ok (.getfield 22, 3) := by decide +kernel
theorem dX4_choose_13 : decode cX4_choose 13 = .ok (.iload_n 1, 1) := by decide +kernel
theorem dX4_choose_14 : decode cX4_choose 14 = .ok (.invokevirtual 111, 3) := by decide +kernel
theorem dX4_choose_17 : decode cX4_choose 17 = .ok (.ireturn, 1) := by decide +kernel
theorem dX4_setBase_0 : decode cX4_setBase 0 = .ok (.aload_n 0, 1) := by decide +kernel
theorem dX4_setBase_1 : decode cX4_setBase 1 = .ok (.iload_n 1, 1) := by decide +kernel
theorem dX4_setBase_2 : decode cX4_setBase 2 = .ok (.invokevirtual 52, 3) := by decide +kernel
theorem dX4_setBase_5 : decode cX4_setBase 5 = .ok (.aload_n 0, 1) := by decide +kernel
theorem dX4_setBase_6 : decode cX4_setBase 6 = .ok (.iload_n 2, 1) := by decide +kernel
theorem dX4_setBase_7 : decode cX4_setBase 7 = .ok (.invokevirtual 52, 3) := by decide +kernel
theorem dX4_setBase_10 : decode cX4_setBase 10 = .ok (.iload_n 3, 1) := by decide +kernel
theorem dX4_setBase_11 : decode cX4_setBase 11 = .ok (.invokestatic 114, 3) := by decide +kernel
theorem dX4_setBase_14 : decode cX4_setBase 14 = .ok (.aload_n 0, 1) := by decide +kernel
theorem dX4_setBase_15 : decode cX4_setBase 15 = .ok (.getfield 29, 3) := by decide +kernel
theorem dX4_setBase_18 : decode cX4_setBase 18 = .ok (.iload_n 1, 1) := by decide +kernel
theorem dX4_setBase_19 : decode cX4_setBase 19 = .ok (.iload_n 2, 1) := by decide +kernel
theorem dX4_setBase_20 : decode cX4_setBase 20 = .ok (.iload_n 3, 1) := by decide +kernel
theorem dX4_setBase_21 : decode cX4_setBase 21 = .ok (.invokevirtual 117, 3) := by decide +kernel
theorem dX4_setBase_24 : decode cX4_setBase 24 = .ok (.aload_n 0, 1) := by decide +kernel
theorem dX4_setBase_25 : decode cX4_setBase 25 = .ok (.invokevirtual 120, 3) := by decide +kernel
theorem dX4_setBase_28 : decode cX4_setBase 28 = .ok (.aload_n 0, 1) := by decide +kernel
theorem dX4_setBase_29 : decode cX4_setBase 29 = .ok (.getfield 29, 3) := by decide +kernel
theorem dX4_setBase_32 : decode cX4_setBase 32 = .ok (.invokevirtual 123, 3) := by decide +kernel
theorem dX4_setBase_35 : decode cX4_setBase 35 = .ok (.getfield 127, 3) := by decide +kernel
theorem dX4_setBase_38 : decode cX4_setBase 38 = .ok (.ifCond .ne 7, 3) := by decide +kernel
theorem dX4_setBase_41 : decode cX4_setBase 41 = .ok (.iconst 1, 1) := by decide +kernel
theorem dX4_setBase_42 : decode cX4_setBase 42 = .ok (.goto 4, 3) := by decide +kernel
theorem dX4_setBase_45 : decode cX4_setBase 45 = .ok (.iconst 0, 1) := by decide +kernel
theorem dX4_setBase_46 : decode cX4_setBase 46 = .ok (.ireturn, 1) := by decide +kernel
theorem dX4_pocket_0 : decode cX4_pocket 0 = .ok (.aload_n 0, 1) := by decide +kernel
theorem dX4_pocket_1 : decode cX4_pocket 1 = .ok (.iload_n 1, 1) := by decide +kernel
theorem dX4_pocket_2 : decode cX4_pocket 2 = .ok (.invokevirtual 52, 3) := by decide +kernel
theorem dX4_pocket_5 : decode cX4_pocket 5 = .ok (.aload_n 0, 1) := by decide +kernel
theorem dX4_pocket_6 : decode cX4_pocket 6 = .ok (.iload_n 2, 1) := by decide +kernel
theorem dX4_pocket_7 : decode cX4_pocket 7 = .ok (.invokevirtual 52, 3) := by decide +kernel
theorem dX4_pocket_10 : decode cX4_pocket 10 = .ok (.iload 4, 2) := by decide +kernel
theorem dX4_pocket_12 : decode cX4_pocket 12 = .ok (.iconst (-1), 1) := by decide +kernel
theorem dX4_pocket_13 : decode cX4_pocket 13 = .ok (.if_icmp .eq 9, 3) := by decide +kernel
theorem dX4_pocket_16 : decode cX4_pocket 16 = .ok (.aload_n 0, 1) := by decide +kernel
theorem dX4_pocket_17 : decode cX4_pocket 17 = .ok (.iload 4, 2) := by decide +kernel
theorem dX4_pocket_19 : decode cX4_pocket 19 = .ok (.invokevirtual 132, 3) := by decide +kernel
theorem dX4_pocket_22 : decode cX4_pocket 22 = .ok (.iload_n 3, 1) := by decide +kernel
theorem dX4_pocket_23 : decode cX4_pocket 23 = .ok (.invokestatic 114, 3) := by decide +kernel
theorem dX4_pocket_26 : decode cX4_pocket 26 = .ok (.aload_n 0, 1) := by decide +kernel
theorem dX4_pocket_27 : decode cX4_pocket 27 = .ok (.getfield 29, 3) := by decide +kernel
theorem dX4_pocket_30 : decode cX4_pocket 30 = .ok (.getfield 135, 3) := by decide +kernel
theorem dX4_pocket_33 : decode cX4_pocket 33 = .ok (.ifCond .ne 13, 3) := by decide +kernel
theorem dX4_pocket_36 : decode cX4_pocket 36 = .ok (.new 41, 3) := by decide +kernel
theorem dX4_pocket_39 : decode cX4_pocket 39 = .ok (.dup, 1) := by decide +kernel
theorem dX4_pocket_40 : decode cX4_pocket 40 = .ok (.ldc 138, 2) := by decide +kernel
theorem dX4_pocket_42 : decode cX4_pocket 42 = .ok (.invokespecial 45, 3) := by decide +kernel
theorem dX4_pocket_45 : decode cX4_pocket 45 = .ok (.athrow, 1) := by decide +kernel
theorem dX4_pocket_46 : decode cX4_pocket 46 = .ok (.aload_n 0, 1) := by decide +kernel
theorem dX4_pocket_47 : decode cX4_pocket 47 = .ok (.getfield 29, 3) := by decide +kernel
theorem dX4_pocket_50 : decode cX4_pocket 50 = .ok (.getfield 140, 3) := by decide +kernel
theorem dX4_pocket_53 : decode cX4_pocket 53 = .ok (.bipush 8, 2) := by decide +kernel
theorem dX4_pocket_55 : decode cX4_pocket 55 = .ok (.if_icmp .lt 13, 3) := by decide +kernel
theorem dX4_pocket_58 : decode cX4_pocket 58 = .ok (.new 41, 3) := by decide +kernel
theorem dX4_pocket_61 : decode cX4_pocket 61 = .ok (.dup, 1) := by decide +kernel
theorem dX4_pocket_62 : decode cX4_pocket 62 = .ok (.ldc 143, 2) := by decide +kernel
theorem dX4_pocket_64 : decode cX4_pocket 64 = .ok (.invokespecial 45, 3) := by decide +kernel
theorem dX4_pocket_67 : decode cX4_pocket 67 = .ok (.athrow, 1) := by decide +kernel
theorem dX4_pocket_68 : decode cX4_pocket 68 = .ok (.aload_n 0, 1) := by decide +kernel
theorem dX4_pocket_69 : decode cX4_pocket 69 = .ok (.getfield 29, 3) := by decide +kernel
theorem dX4_pocket_72 : decode cX4_pocket 72 = .ok (.iload_n 1, 1) := by decide +kernel
theorem dX4_pocket_73 : decode cX4_pocket 73 = .ok (.iload_n 2, 1) := by decide +kernel
theorem dX4_pocket_74 : decode cX4_pocket 74 = .ok (.iload_n 3, 1) := by decide +kernel
theorem dX4_pocket_75 : decode cX4_pocket 75 = .ok (.iload 4, 2) := by decide +kernel
theorem dX4_pocket_77 : decode cX4_pocket 77 = .ok (.invokevirtual 145, 3) := by decide +kernel
theorem dX4_pocket_80 : decode cX4_pocket 80 = .ok (.ireturn, 1) := by decide +kernel
theorem dX4_fails_0 : decode cX4_fails 0 = .ok (.aload_n 0, 1) := by decide +kernel
theorem dX4_fails_1 : decode cX4_fails 1 = .ok (.iload_n 1, 1) := by decide +kernel
theorem dX4_fails_2 : decode cX4_fails 2 = .ok (.invokevirtual 132, 3) := by decide +kernel
theorem dX4_fails_5 : decode cX4_fails 5 = .ok (.aload_n 0, 1) := by decide +kernel
theorem dX4_fails_6 : decode cX4_fails 6 = .ok (.invokevirtual 120, 3) := by decide +kernel
theorem dX4_fails_9 : decode cX4_fails 9 = .ok (.aload_n 0, 1) := by decide +kernel
theorem dX4_fails_10 : decode cX4_fails 10 = .ok (.getfield 29, 3) := by decide +kernel
theorem dX4_fails_13 : decode cX4_fails 13 = .ok (.iload_n 1, 1) := by decide +kernel
theorem dX4_fails_14 : decode cX4_fails 14 = .ok (.invokevirtual 148, 3) := by decide +kernel
theorem dX4_fails_17 : decode cX4_fails 17 = .ok (.getfield 127, 3) := by decide +kernel
theorem dX4_fails_20 : decode cX4_fails 20 = .ok (.ireturn, 1) := by decide +kernel
theorem dX4_volume_0 : decode cX4_volume 0 = .ok (.aload_n 0, 1) := by decide +kernel
theorem dX4_volume_1 : decode cX4_volume 1 = .ok (.invokevirtual 120, 3) := by decide +kernel
theorem dX4_volume_4 : decode cX4_volume 4 = .ok (.aload_n 0, 1) := by decide +kernel
theorem dX4_volume_5 : decode cX4_volume 5 = .ok (.getfield 29, 3) := by decide +kernel
theorem dX4_volume_8 : decode cX4_volume 8 = .ok (.invokevirtual 152, 3) := by decide +kernel
theorem dX4_volume_11 : decode cX4_volume 11 = .ok (.aload_n 0, 1) := by decide +kernel
theorem dX4_volume_12 : decode cX4_volume 12 = .ok (.getfield 29, 3) := by decide +kernel
theorem dX4_volume_15 : decode cX4_volume 15 = .ok (.invokevirtual 156, 3) := by decide +kernel
theorem dX4_volume_18 : decode cX4_volume 18 = .ok (.isub, 1) := by decide +kernel
theorem dX4_volume_19 : decode cX4_volume 19 = .ok (.ireturn, 1) := by decide +kernel
theorem dX4_price_0 : decode cX4_price 0 = .ok (.aload_n 0, 1) := by decide +kernel
theorem dX4_price_1 : decode cX4_price 1 = .ok (.invokevirtual 120, 3) := by decide +kernel
theorem dX4_price_4 : decode cX4_price 4 = .ok (.iconst 2, 1) := by decide +kernel
theorem dX4_price_5 : decode cX4_price 5 = .ok (.aload_n 0, 1) := by decide +kernel
theorem dX4_price_6 : decode cX4_price 6 = .ok (.getfield 29, 3) := by decide +kernel
theorem dX4_price_9 : decode cX4_price 9 = .ok (.invokevirtual 152, 3) := by decide +kernel
theorem dX4_price_12 : decode cX4_price 12 = .ok (.imul, 1) := by decide +kernel
theorem dX4_price_13 : decode cX4_price 13 = .ok (.iconst 1, 1) := by decide +kernel
theorem dX4_price_14 : decode cX4_price 14 = .ok (.aload_n 0, 1) := by decide +kernel
theorem dX4_price_15 : decode cX4_price 15 = .ok (.getfield 29, 3) := by decide +kernel
theorem dX4_price_18 : decode cX4_price 18 = .ok (.invokevirtual 156, 3) := by decide +kernel
theorem dX4_price_21 : decode cX4_price 21 = .ok (.imul, 1) := by decide +kernel
theorem dX4_price_22 : decode cX4_price 22 = .ok (.iadd, 1) := by decide +kernel
theorem dX4_price_23 : decode cX4_price 23 = .ok (.bipush 100, 2) := by decide +kernel
theorem dX4_price_25 : decode cX4_price 25 = .ok (.aload_n 0, 1) := by decide +kernel
theorem dX4_price_26 : decode cX4_price 26 = .ok (.getfield 29, 3) := by decide +kernel
theorem dX4_price_29 : decode cX4_price 29 = .ok (.invokevirtual 159, 3) := by decide +kernel
theorem dX4_price_32 : decode cX4_price 32 = .ok (.imul, 1) := by decide +kernel
theorem dX4_price_33 : decode cX4_price 33 = .ok (.iadd, 1) := by decide +kernel
theorem dX4_price_34 : decode cX4_price 34 = .ok (.ireturn, 1) := by decide +kernel
theorem dX4_requireReach_0 : decode cX4_requireReach 0 = .ok (.iload_n 0, 1) := by decide +kernel
theorem dX4_requireReach_1 : decode cX4_requireReach 1 = .ok (.bipush (-100), 2) := by decide +kernel
theorem dX4_requireReach_3 : decode cX4_requireReach 3 = .ok (.if_icmp .lt 9, 3) := by decide +kernel
theorem dX4_requireReach_6 : decode cX4_requireReach 6 = .ok (.iload_n 0, 1) := by decide +kernel
theorem dX4_requireReach_7 : decode cX4_requireReach 7 = .ok (.bipush 100, 2) := by decide +kernel
theorem dX4_requireReach_9 : decode cX4_requireReach 9 = .ok (.if_icmp .le 13, 3) := by decide +kernel
theorem dX4_requireReach_12 : decode cX4_requireReach 12 = .ok (.new 55, 3) := by decide +kernel
theorem dX4_requireReach_15 : decode cX4_requireReach 15 = .ok (.dup, 1) := by decide +kernel
theorem dX4_requireReach_16 : decode cX4_requireReach 16 = .ok (.ldc 162, 2) := by decide +kernel
theorem dX4_requireReach_18 : decode cX4_requireReach 18 = .ok (.invokespecial 59, 3) := by decide +kernel
theorem dX4_requireReach_21 : decode cX4_requireReach 21 = .ok (.athrow, 1) := by decide +kernel
theorem dX4_requireReach_22 : decode cX4_requireReach 22 = .ok (.return_, 1) := by decide +kernel
theorem dX4_requireDepth_0 : decode cX4_requireDepth 0 = .ok (.iload_n 0, 1) := by decide +kernel
theorem dX4_requireDepth_1 : decode cX4_requireDepth 1 = .ok (.iconst 1, 1) := by decide +kernel
theorem dX4_requireDepth_2 : decode cX4_requireDepth 2 = .ok (.if_icmp .lt 9, 3) := by decide +kernel
theorem dX4_requireDepth_5 : decode cX4_requireDepth 5 = .ok (.iload_n 0, 1) := by decide +kernel
theorem dX4_requireDepth_6 : decode cX4_requireDepth 6 = .ok (.bipush 50, 2) := by decide +kernel
theorem dX4_requireDepth_8 : decode cX4_requireDepth 8 = .ok (.if_icmp .le 13, 3) := by decide +kernel
theorem dX4_requireDepth_11 : decode cX4_requireDepth 11 = .ok (.new 55, 3) := by decide +kernel
theorem dX4_requireDepth_14 : decode cX4_requireDepth 14 = .ok (.dup, 1) := by decide +kernel
theorem dX4_requireDepth_15 : decode cX4_requireDepth 15 = .ok (.ldc 164, 2) := by decide +kernel
theorem dX4_requireDepth_17 : decode cX4_requireDepth 17 = .ok (.invokespecial 59, 3) := by decide +kernel
theorem dX4_requireDepth_20 : decode cX4_requireDepth 20 = .ok (.athrow, 1) := by decide +kernel
theorem dX4_requireDepth_21 : decode cX4_requireDepth 21 = .ok (.return_, 1) := by decide +kernel
theorem dX4_requireVariant_0 : decode cX4_requireVariant 0 = .ok (.iload_n 0, 1) := by decide +kernel
theorem dX4_requireVariant_1 : decode cX4_requireVariant 1 = .ok (.ifCond .lt 8, 3) := by decide +kernel
theorem dX4_requireVariant_4 : decode cX4_requireVariant 4 = .ok (.iload_n 0, 1) := by decide +kernel
theorem dX4_requireVariant_5 : decode cX4_requireVariant 5 = .ok (.iconst 4, 1) := by decide +kernel
theorem dX4_requireVariant_6 : decode cX4_requireVariant 6 = .ok (.if_icmp .lt 13, 3) := by decide +kernel
theorem dX4_requireVariant_9 : decode cX4_requireVariant 9 = .ok (.new 55, 3) := by decide +kernel
theorem dX4_requireVariant_12 : decode cX4_requireVariant 12 = .ok (.dup, 1) := by decide +kernel
theorem dX4_requireVariant_13 : decode cX4_requireVariant 13 = .ok (.ldc 166, 2) := by decide +kernel
theorem dX4_requireVariant_15 : decode cX4_requireVariant 15 = .ok (.invokespecial 59, 3) := by decide +kernel
theorem dX4_requireVariant_18 : decode cX4_requireVariant 18 = .ok (.athrow, 1) := by decide +kernel
theorem dX4_requireVariant_19 : decode cX4_requireVariant 19 = .ok (.return_, 1) := by decide +kernel
theorem dX4_requirePoint_0 : decode cX4_requirePoint 0 = .ok (.iload_n 1, 1) := by decide +kernel
theorem dX4_requirePoint_1 : decode cX4_requirePoint 1 = .ok (.ifCond .lt 11, 3) := by decide +kernel
theorem dX4_requirePoint_4 : decode cX4_requirePoint 4 = .ok (.iload_n 1, 1) := by decide +kernel
theorem dX4_requirePoint_5 : decode cX4_requirePoint 5 = .ok (.aload_n 0, 1) := by decide +kernel
theorem dX4_requirePoint_6 : decode cX4_requirePoint 6 = .ok (.getfield 37, 3) := by decide +kernel
theorem dX4_requirePoint_9 : decode cX4_requirePoint 9 = .ok (.if_icmp .lt 13, 3) := by decide +kernel
theorem dX4_requirePoint_12 : decode cX4_requirePoint 12 = .ok (.new 168, 3) := by decide +kernel
theorem dX4_requirePoint_15 : decode cX4_requirePoint 15 = .ok (.dup, 1) := by decide +kernel
theorem dX4_requirePoint_16 : decode cX4_requirePoint 16 = .ok (.ldc 170, 2) := by decide +kernel
theorem dX4_requirePoint_18 : decode cX4_requirePoint 18 = .ok (.invokespecial 172, 3) := by decide +kernel
theorem dX4_requirePoint_21 : decode cX4_requirePoint 21 = .ok (.athrow, 1) := by decide +kernel
theorem dX4_requirePoint_22 : decode cX4_requirePoint 22 = .ok (.return_, 1) := by decide +kernel
theorem dX4_requireWish_0 : decode cX4_requireWish 0 = .ok (.iload_n 1, 1) := by decide +kernel
theorem dX4_requireWish_1 : decode cX4_requireWish 1 = .ok (.ifCond .lt 14, 3) := by decide +kernel
theorem dX4_requireWish_4 : decode cX4_requireWish 4 = .ok (.iload_n 1, 1) := by decide +kernel
theorem dX4_requireWish_5 : decode cX4_requireWish 5 = .ok (.aload_n 0, 1) := by decide +kernel
theorem dX4_requireWish_6 : decode cX4_requireWish 6 = .ok (.getfield 22, 3) := by decide +kernel
theorem dX4_requireWish_9 : decode cX4_requireWish 9 = .ok (.getfield 62, 3) := by decide +kernel
theorem dX4_requireWish_12 : decode cX4_requireWish 12 = .ok (.if_icmp .lt 13, 3) := by decide +kernel
theorem dX4_requireWish_15 : decode cX4_requireWish 15 = .ok (.new 168, 3) := by decide +kernel
theorem dX4_requireWish_18 : decode cX4_requireWish 18 = .ok (.dup, 1) := by decide +kernel
theorem dX4_requireWish_19 : decode cX4_requireWish 19 = .ok (.ldc 173, 2) := by decide +kernel
theorem dX4_requireWish_21 : decode cX4_requireWish 21 = .ok (.invokespecial 172, 3) := by decide +kernel
theorem dX4_requireWish_24 : decode cX4_requireWish 24 = .ok (.athrow, 1) := by decide +kernel
theorem dX4_requireWish_25 : decode cX4_requireWish 25 = .ok (.return_, 1) := by decide +kernel
theorem dX4_requireSized_0 : decode cX4_requireSized 0 = .ok (.aload_n 0, 1) := by decide +kernel
theorem dX4_requireSized_1 : decode cX4_requireSized 1 = .ok (.getfield 22, 3) := by decide +kernel
theorem dX4_requireSized_4 : decode cX4_requireSized 4 = .ok (.getfield 175, 3) := by decide +kernel
theorem dX4_requireSized_7 : decode cX4_requireSized 7 = .ok (.iload_n 1, 1) := by decide +kernel
theorem dX4_requireSized_8 : decode cX4_requireSized 8 = .ok (.iaload, 1) := by decide +kernel
theorem dX4_requireSized_9 : decode cX4_requireSized 9 = .ok (.iconst 2, 1) := by decide +kernel
theorem dX4_requireSized_10 : decode cX4_requireSized 10 = .ok (.if_icmp .ne 13, 3) := by decide +kernel
theorem dX4_requireSized_13 : decode cX4_requireSized 13 = .ok (.new 41, 3) := by decide +kernel
theorem dX4_requireSized_16 : decode cX4_requireSized 16 = .ok (.dup, 1) := by decide +kernel
theorem dX4_requireSized_17 : decode cX4_requireSized 17 = .ok (.ldc 178, 2) := by decide +kernel
theorem dX4_requireSized_19 : decode cX4_requireSized 19 = .ok (.invokespecial 45, 3) := by decide +kernel
theorem dX4_requireSized_22 : decode cX4_requireSized 22 = .ok (.athrow, 1) := by decide +kernel
theorem dX4_requireSized_23 : decode cX4_requireSized 23 = .ok (.return_, 1) := by decide +kernel
theorem dX4_requirePocket_0 : decode cX4_requirePocket 0 = .ok (.iload_n 1, 1) := by decide +kernel
theorem dX4_requirePocket_1 : decode cX4_requirePocket 1 = .ok (.ifCond .lt 14, 3) := by decide +kernel
theorem dX4_requirePocket_4 : decode cX4_requirePocket 4 = .ok (.iload_n 1, 1) := by decide +kernel
theorem dX4_requirePocket_5 : decode cX4_requirePocket 5 = .ok (.aload_n 0, 1) := by decide +kernel
theorem dX4_requirePocket_6 : decode cX4_requirePocket 6 = .ok (.getfield 29, 3) := by decide +kernel
theorem dX4_requirePocket_9 : decode cX4_requirePocket 9 = .ok (.getfield 140, 3) := by decide +kernel
theorem dX4_requirePocket_12 : decode cX4_requirePocket 12 = .ok (.if_icmp .lt 13, 3) := by decide +kernel
theorem dX4_requirePocket_15 : decode cX4_requirePocket 15 = .ok (.new 168, 3) := by decide +kernel
theorem dX4_requirePocket_18 : decode cX4_requirePocket 18 = .ok (.dup, 1) := by decide +kernel
theorem dX4_requirePocket_19 : decode cX4_requirePocket 19 = .ok (.ldc 180, 2) := by decide +kernel
theorem dX4_requirePocket_21 : decode cX4_requirePocket 21 = .ok (.invokespecial 172, 3) := by decide +kernel
theorem dX4_requirePocket_24 : decode cX4_requirePocket 24 = .ok (.athrow, 1) := by decide +kernel
theorem dX4_requirePocket_25 : decode cX4_requirePocket 25 = .ok (.return_, 1) := by decide +kernel
theorem dX4_moveHint_0 : decode cX4_moveHint 0 = .ok (.aload_n 0, 1) := by decide +kernel
theorem dX4_moveHint_1 : decode cX4_moveHint 1 = .ok (.getfield 12, 3) := by decide +kernel
theorem dX4_moveHint_4 : decode cX4_moveHint 4 = .ok (.getfield 182, 3) := by decide +kernel
theorem dX4_moveHint_7 : decode cX4_moveHint 7 = .ok (.iload_n 1, 1) := by decide +kernel
theorem dX4_moveHint_8 : decode cX4_moveHint 8 = .ok (.iload_n 2, 1) := by decide +kernel
theorem dX4_moveHint_9 : decode cX4_moveHint 9 = .ok (.iastore, 1) := by decide +kernel
theorem dX4_moveHint_10 : decode cX4_moveHint 10 = .ok (.aload_n 0, 1) := by decide +kernel
theorem dX4_moveHint_11 : decode cX4_moveHint 11 = .ok (.getfield 16, 3) := by decide +kernel
theorem dX4_moveHint_14 : decode cX4_moveHint 14 = .ok (.getfield 182, 3) := by decide +kernel
theorem dX4_moveHint_17 : decode cX4_moveHint 17 = .ok (.iload_n 1, 1) := by decide +kernel
theorem dX4_moveHint_18 : decode cX4_moveHint 18 = .ok (.iload_n 3, 1) := by decide +kernel
theorem dX4_moveHint_19 : decode cX4_moveHint 19 = .ok (.iastore, 1) := by decide +kernel
theorem dX4_moveHint_20 : decode cX4_moveHint 20 = .ok (.aload_n 0, 1) := by decide +kernel
theorem dX4_moveHint_21 : decode cX4_moveHint 21 = .ok (.iconst 0, 1) := by decide +kernel
theorem dX4_moveHint_22 : decode cX4_moveHint 22 = .ok (.putfield 67, 3) := by decide +kernel
theorem dX4_moveHint_25 : decode cX4_moveHint 25 = .ok (.return_, 1) := by decide +kernel
theorem dX4_measure_0 : decode cX4_measure 0 = .ok (.aload_n 0, 1) := by decide +kernel
theorem dX4_measure_1 : decode cX4_measure 1 = .ok (.invokevirtual 78, 3) := by decide +kernel
theorem dX4_measure_4 : decode cX4_measure 4 = .ok (.aload_n 0, 1) := by decide +kernel
theorem dX4_measure_5 : decode cX4_measure 5 = .ok (.getfield 29, 3) := by decide +kernel
theorem dX4_measure_8 : decode cX4_measure 8 = .ok (.aload_n 0, 1) := by decide +kernel
theorem dX4_measure_9 : decode cX4_measure 9 = .ok (.getfield 12, 3) := by decide +kernel
theorem dX4_measure_12 : decode cX4_measure 12 = .ok (.aload_n 0, 1) := by decide +kernel
theorem dX4_measure_13 : decode cX4_measure 13 = .ok (.getfield 16, 3) := by decide +kernel
theorem dX4_measure_16 : decode cX4_measure 16 = .ok (.invokevirtual 185, 3) := by decide +kernel
theorem dX4_measure_19 : decode cX4_measure 19 = .ok (.return_, 1) := by decide +kernel
theorem dX4_settle_0 : decode cX4_settle 0 = .ok (.aload_n 0, 1) := by decide +kernel
theorem dX4_settle_1 : decode cX4_settle 1 = .ok (.getfield 67, 3) := by decide +kernel
theorem dX4_settle_4 : decode cX4_settle 4 = .ok (.ifCond .eq 4, 3) := by decide +kernel
theorem dX4_settle_7 : decode cX4_settle 7 = .ok (.return_, 1) := by decide +kernel
theorem dX4_settle_8 : decode cX4_settle 8 = .ok (.aload_n 0, 1) := by decide +kernel
theorem dX4_settle_9 : decode cX4_settle 9 = .ok (.getfield 12, 3) := by decide +kernel
theorem dX4_settle_12 : decode cX4_settle 12 = .ok (.invokevirtual 188, 3) := by decide +kernel
theorem dX4_settle_15 : decode cX4_settle 15 = .ok (.aload_n 0, 1) := by decide +kernel
theorem dX4_settle_16 : decode cX4_settle 16 = .ok (.getfield 16, 3) := by decide +kernel
theorem dX4_settle_19 : decode cX4_settle 19 = .ok (.invokevirtual 188, 3) := by decide +kernel
theorem dX4_settle_22 : decode cX4_settle 22 = .ok (.iconst 0, 1) := by decide +kernel
theorem dX4_settle_23 : decode cX4_settle 23 = .ok (.istore_n 1, 1) := by decide +kernel
theorem dX4_settle_24 : decode cX4_settle 24 = .ok (.iload_n 1, 1) := by decide +kernel
theorem dX4_settle_25 : decode cX4_settle 25 = .ok (.aload_n 0, 1) := by decide +kernel
theorem dX4_settle_26 : decode cX4_settle 26 = .ok (.getfield 22, 3) := by decide +kernel
theorem dX4_settle_29 : decode cX4_settle 29 = .ok (.getfield 62, 3) := by decide +kernel
theorem dX4_settle_32 : decode cX4_settle 32 = .ok (.if_icmp .ge 23, 3) := by decide +kernel
theorem dX4_settle_35 : decode cX4_settle 35 = .ok (.aload_n 0, 1) := by decide +kernel
theorem dX4_settle_36 : decode cX4_settle 36 = .ok (.getfield 22, 3) := by decide +kernel
theorem dX4_settle_39 : decode cX4_settle 39 = .ok (.getfield 81, 3) := by decide +kernel
theorem dX4_settle_42 : decode cX4_settle 42 = .ok (.iload_n 1, 1) := by decide +kernel
theorem dX4_settle_43 : decode cX4_settle 43 = .ok (.aload_n 0, 1) := by decide +kernel
theorem dX4_settle_44 : decode cX4_settle 44 = .ok (.iload_n 1, 1) := by decide +kernel
theorem dX4_settle_45 : decode cX4_settle 45 = .ok (.invokevirtual 191, 3) := by decide +kernel
theorem dX4_settle_48 : decode cX4_settle 48 = .ok (.iastore, 1) := by decide +kernel
theorem dX4_settle_49 : decode cX4_settle 49 = .ok (.iinc 1 1, 3) := by decide +kernel
theorem dX4_settle_52 : decode cX4_settle 52 = .ok (.goto (-28), 3) := by decide +kernel
theorem dX4_settle_55 : decode cX4_settle 55 = .ok (.aload_n 0, 1) := by decide +kernel
theorem dX4_settle_56 : decode cX4_settle 56 = .ok (.getfield 12, 3) := by decide +kernel
theorem dX4_settle_59 : decode cX4_settle 59 = .ok (.aload_n 0, 1) := by decide +kernel
theorem dX4_settle_60 : decode cX4_settle 60 = .ok (.getfield 37, 3) := by decide +kernel
theorem dX4_settle_63 : decode cX4_settle 63 = .ok (.invokevirtual 194, 3) := by decide +kernel
theorem dX4_settle_66 : decode cX4_settle 66 = .ok (.aload_n 0, 1) := by decide +kernel
theorem dX4_settle_67 : decode cX4_settle 67 = .ok (.getfield 16, 3) := by decide +kernel
theorem dX4_settle_70 : decode cX4_settle 70 = .ok (.aload_n 0, 1) := by decide +kernel
theorem dX4_settle_71 : decode cX4_settle 71 = .ok (.getfield 37, 3) := by decide +kernel
theorem dX4_settle_74 : decode cX4_settle 74 = .ok (.invokevirtual 194, 3) := by decide +kernel
theorem dX4_settle_77 : decode cX4_settle 77 = .ok (.aload_n 0, 1) := by decide +kernel
theorem dX4_settle_78 : decode cX4_settle 78 = .ok (.iconst 1, 1) := by decide +kernel
theorem dX4_settle_79 : decode cX4_settle 79 = .ok (.putfield 67, 3) := by decide +kernel
theorem dX4_settle_82 : decode cX4_settle 82 = .ok (.return_, 1) := by decide +kernel
theorem dX4_admit_0 : decode cX4_admit 0 = .ok (.aload_n 0, 1) := by decide +kernel
theorem dX4_admit_1 : decode cX4_admit 1 = .ok (.getfield 22, 3) := by decide +kernel
theorem dX4_admit_4 : decode cX4_admit 4 = .ok (.getfield 197, 3) := by decide +kernel
theorem dX4_admit_7 : decode cX4_admit 7 = .ok (.iload_n 1, 1) := by decide +kernel
theorem dX4_admit_8 : decode cX4_admit 8 = .ok (.iaload, 1) := by decide +kernel
theorem dX4_admit_9 : decode cX4_admit 9 = .ok (.istore_n 2, 1) := by decide +kernel
theorem dX4_admit_10 : decode cX4_admit 10 = .ok (.aload_n 0, 1) := by decide +kernel
theorem dX4_admit_11 : decode cX4_admit 11 = .ok (.getfield 22, 3) := by decide +kernel
theorem dX4_admit_14 : decode cX4_admit 14 = .ok (.getfield 200, 3) := by decide +kernel
theorem dX4_admit_17 : decode cX4_admit 17 = .ok (.iload_n 1, 1) := by decide +kernel
theorem dX4_admit_18 : decode cX4_admit 18 = .ok (.iaload, 1) := by decide +kernel
theorem dX4_admit_19 : decode cX4_admit 19 = .ok (.istore_n 3, 1) := by decide +kernel
theorem dX4_admit_20 : decode cX4_admit 20 = .ok (.aload_n 0, 1) := by decide +kernel
theorem dX4_admit_21 : decode cX4_admit 21 = .ok (.getfield 22, 3) := by decide +kernel
theorem dX4_admit_24 : decode cX4_admit 24 = .ok (.getfield 91, 3) := by decide +kernel
theorem dX4_admit_27 : decode cX4_admit 27 = .ok (.iload_n 1, 1) := by decide +kernel
theorem dX4_admit_28 : decode cX4_admit 28 = .ok (.iaload, 1) := by decide +kernel
theorem dX4_admit_29 : decode cX4_admit 29 = .ok (.istore 4, 2) := by decide +kernel
theorem dX4_admit_31 : decode cX4_admit 31 = .ok (.aload_n 0, 1) := by decide +kernel
theorem dX4_admit_32 : decode cX4_admit 32 = .ok (.getfield 22, 3) := by decide +kernel
theorem dX4_admit_35 : decode cX4_admit 35 = .ok (.getfield 175, 3) := by decide +kernel
theorem dX4_admit_38 : decode cX4_admit 38 = .ok (.iload_n 1, 1) := by decide +kernel
theorem dX4_admit_39 : decode cX4_admit 39 = .ok (.iaload, 1) := by decide +kernel
theorem dX4_admit_40 : decode cX4_admit 40 = .ok (.lookupswitch 52 #[(0, 28), (1, 40)], 28) := by decide +kernel
theorem dX4_admit_68 : decode cX4_admit 68 = .ok (.aload_n 0, 1) := by decide +kernel
theorem dX4_admit_69 : decode cX4_admit 69 = .ok (.getfield 12, 3) := by decide +kernel
theorem dX4_admit_72 : decode cX4_admit 72 = .ok (.iload_n 2, 1) := by decide +kernel
theorem dX4_admit_73 : decode cX4_admit 73 = .ok (.iload_n 3, 1) := by decide +kernel
theorem dX4_admit_74 : decode cX4_admit 74 = .ok (.iload 4, 2) := by decide +kernel
theorem dX4_admit_76 : decode cX4_admit 76 = .ok (.invokestatic 203, 3) := by decide +kernel
theorem dX4_admit_79 : decode cX4_admit 79 = .ok (.ireturn, 1) := by decide +kernel
theorem dX4_admit_80 : decode cX4_admit 80 = .ok (.aload_n 0, 1) := by decide +kernel
theorem dX4_admit_81 : decode cX4_admit 81 = .ok (.getfield 16, 3) := by decide +kernel
theorem dX4_admit_84 : decode cX4_admit 84 = .ok (.iload_n 2, 1) := by decide +kernel
theorem dX4_admit_85 : decode cX4_admit 85 = .ok (.iload_n 3, 1) := by decide +kernel
theorem dX4_admit_86 : decode cX4_admit 86 = .ok (.iload 4, 2) := by decide +kernel
theorem dX4_admit_88 : decode cX4_admit 88 = .ok (.invokestatic 203, 3) := by decide +kernel
theorem dX4_admit_91 : decode cX4_admit 91 = .ok (.ireturn, 1) := by decide +kernel
theorem dX4_admit_92 : decode cX4_admit 92 = .ok (.aload_n 0, 1) := by decide +kernel
theorem dX4_admit_93 : decode cX4_admit 93 = .ok (.iload_n 2, 1) := by decide +kernel
theorem dX4_admit_94 : decode cX4_admit 94 = .ok (.invokevirtual 207, 3) := by decide +kernel
theorem dX4_admit_97 : decode cX4_admit 97 = .ok (.ireturn, 1) := by decide +kernel
theorem dX4_admitApart_0 : decode cX4_admitApart 0 = .ok (.aload_n 0, 1) := by decide +kernel
theorem dX4_admitApart_1 : decode cX4_admitApart 1 = .ok (.iload_n 1, 1) := by decide +kernel
theorem dX4_admitApart_2 : decode cX4_admitApart 2 = .ok (.iload_n 2, 1) := by decide +kernel
theorem dX4_admitApart_3 : decode cX4_admitApart 3 = .ok (.iload_n 3, 1) := by decide +kernel
theorem dX4_admitApart_4 : decode cX4_admitApart 4 = .ok (.invokevirtual 210, 3) := by decide +kernel
theorem dX4_admitApart_7 : decode cX4_admitApart 7 = .ok (.istore 4, 2) := by decide +kernel
theorem dX4_admitApart_9 : decode cX4_admitApart 9 = .ok (.iload 4, 2) := by decide +kernel
theorem dX4_admitApart_11 : decode cX4_admitApart 11 = .ok (.ifCond .ne 10, 3) := by decide +kernel
theorem dX4_admitApart_14 : decode cX4_admitApart 14 = .ok (.aload_n 0, 1) := by decide +kernel
theorem dX4_admitApart_15 : decode cX4_admitApart 15 = .ok (.iload_n 1, 1) := by decide +kernel
theorem dX4_admitApart_16 : decode cX4_admitApart 16 = .ok (.iload_n 2, 1) := by decide +kernel
theorem dX4_admitApart_17 : decode cX4_admitApart 17 = .ok (.iload_n 3, 1) := by decide +kernel
theorem dX4_admitApart_18 : decode cX4_admitApart 18 = .ok (.invokevirtual 214, 3) := by decide +kernel
theorem dX4_admitApart_21 : decode cX4_admitApart 21 = .ok (.iload 4, 2) := by decide +kernel
theorem dX4_admitApart_23 : decode cX4_admitApart 23 = .ok (.ireturn, 1) := by decide +kernel
theorem dX4_admitAtHint_0 : decode cX4_admitAtHint 0 = .ok (.aload_n 0, 1) := by decide +kernel
theorem dX4_admitAtHint_1 : decode cX4_admitAtHint 1 = .ok (.getfield 12, 3) := by decide +kernel
theorem dX4_admitAtHint_4 : decode cX4_admitAtHint 4 = .ok (.bipush 16, 2) := by decide +kernel
theorem dX4_admitAtHint_6 : decode cX4_admitAtHint 6 = .ok (.iload_n 1, 1) := by decide +kernel
theorem dX4_admitAtHint_7 : decode cX4_admitAtHint 7 = .ok (.aload_n 0, 1) := by decide +kernel
theorem dX4_admitAtHint_8 : decode cX4_admitAtHint 8 = .ok (.getfield 12, 3) := by decide +kernel
theorem dX4_admitAtHint_11 : decode cX4_admitAtHint 11 = .ok (.getfield 182, 3) := by decide +kernel
theorem dX4_admitAtHint_14 : decode cX4_admitAtHint 14 = .ok (.iload_n 1, 1) := by decide +kernel
theorem dX4_admitAtHint_15 : decode cX4_admitAtHint 15 = .ok (.iaload, 1) := by decide +kernel
theorem dX4_admitAtHint_16 : decode cX4_admitAtHint 16 = .ok (.invokevirtual 210, 3) := by decide +kernel
theorem dX4_admitAtHint_19 : decode cX4_admitAtHint 19 = .ok (.istore_n 2, 1) := by decide +kernel
theorem dX4_admitAtHint_20 : decode cX4_admitAtHint 20 = .ok (.aload_n 0, 1) := by decide +kernel
theorem dX4_admitAtHint_21 : decode cX4_admitAtHint 21 = .ok (.getfield 16, 3) := by decide +kernel
theorem dX4_admitAtHint_24 : decode cX4_admitAtHint 24 = .ok (.bipush 16, 2) := by decide +kernel
theorem dX4_admitAtHint_26 : decode cX4_admitAtHint 26 = .ok (.iload_n 1, 1) := by decide +kernel
theorem dX4_admitAtHint_27 : decode cX4_admitAtHint 27 = .ok (.aload_n 0, 1) := by decide +kernel
theorem dX4_admitAtHint_28 : decode cX4_admitAtHint 28 = .ok (.getfield 16, 3) := by decide +kernel
theorem dX4_admitAtHint_31 : decode cX4_admitAtHint 31 = .ok (.getfield 182, 3) := by decide +kernel
theorem dX4_admitAtHint_34 : decode cX4_admitAtHint 34 = .ok (.iload_n 1, 1) := by decide +kernel
theorem dX4_admitAtHint_35 : decode cX4_admitAtHint 35 = .ok (.iaload, 1) := by decide +kernel
theorem dX4_admitAtHint_36 : decode cX4_admitAtHint 36 = .ok (.invokevirtual 210, 3) := by decide +kernel
theorem dX4_admitAtHint_39 : decode cX4_admitAtHint 39 = .ok (.istore_n 3, 1) := by decide +kernel
theorem dX4_admitAtHint_40 : decode cX4_admitAtHint 40 = .ok (.iload_n 2, 1) := by decide +kernel
theorem dX4_admitAtHint_41 : decode cX4_admitAtHint 41 = .ok (.iconst 2, 1) := by decide +kernel
theorem dX4_admitAtHint_42 : decode cX4_admitAtHint 42 = .ok (.if_icmp .eq 8, 3) := by decide +kernel
theorem dX4_admitAtHint_45 : decode cX4_admitAtHint 45 = .ok (.iload_n 3, 1) := by decide +kernel
theorem dX4_admitAtHint_46 : decode cX4_admitAtHint 46 = .ok (.iconst 2, 1) := by decide +kernel
theorem dX4_admitAtHint_47 : decode cX4_admitAtHint 47 = .ok (.if_icmp .ne 5, 3) := by decide +kernel
theorem dX4_admitAtHint_50 : decode cX4_admitAtHint 50 = .ok (.iconst 2, 1) := by decide +kernel
theorem dX4_admitAtHint_51 : decode cX4_admitAtHint 51 = .ok (.ireturn, 1) := by decide +kernel
theorem dX4_admitAtHint_52 : decode cX4_admitAtHint 52 = .ok (.iload_n 2, 1) := by decide +kernel
theorem dX4_admitAtHint_53 : decode cX4_admitAtHint 53 = .ok (.ifCond .ne 22, 3) := by decide +kernel
theorem dX4_admitAtHint_56 : decode cX4_admitAtHint 56 = .ok (.aload_n 0, 1) := by decide +kernel
theorem dX4_admitAtHint_57 : decode cX4_admitAtHint 57 = .ok (.getfield 12, 3) := by decide +kernel
theorem dX4_admitAtHint_60 : decode cX4_admitAtHint 60 = .ok (.bipush 16, 2) := by decide +kernel
theorem dX4_admitAtHint_62 : decode cX4_admitAtHint 62 = .ok (.iload_n 1, 1) := by decide +kernel
theorem dX4_admitAtHint_63 : decode cX4_admitAtHint 63 = .ok (.aload_n 0, 1) := by decide +kernel
theorem dX4_admitAtHint_64 : decode cX4_admitAtHint 64 = .ok (.getfield 12, 3) := by decide +kernel
theorem dX4_admitAtHint_67 : decode cX4_admitAtHint 67 = .ok (.getfield 182, 3) := by decide +kernel
theorem dX4_admitAtHint_70 : decode cX4_admitAtHint 70 = .ok (.iload_n 1, 1) := by decide +kernel
theorem dX4_admitAtHint_71 : decode cX4_admitAtHint 71 = .ok (.iaload, 1) := by decide +kernel
theorem dX4_admitAtHint_72 : decode cX4_admitAtHint 72 = .ok (.invokevirtual 214, 3) := by decide +kernel
theorem dX4_admitAtHint_75 : decode cX4_admitAtHint 75 = .ok (.iload_n 3, 1) := by decide +kernel
theorem dX4_admitAtHint_76 : decode cX4_admitAtHint 76 = .ok (.ifCond .ne 22, 3) := by decide +kernel
theorem dX4_admitAtHint_79 : decode cX4_admitAtHint 79 = .ok (.aload_n 0, 1) := by decide +kernel
theorem dX4_admitAtHint_80 : decode cX4_admitAtHint 80 = .ok (.getfield 16, 3) := by decide +kernel
theorem dX4_admitAtHint_83 : decode cX4_admitAtHint 83 = .ok (.bipush 16, 2) := by decide +kernel
theorem dX4_admitAtHint_85 : decode cX4_admitAtHint 85 = .ok (.iload_n 1, 1) := by decide +kernel
theorem dX4_admitAtHint_86 : decode cX4_admitAtHint 86 = .ok (.aload_n 0, 1) := by decide +kernel
theorem dX4_admitAtHint_87 : decode cX4_admitAtHint 87 = .ok (.getfield 16, 3) := by decide +kernel
theorem dX4_admitAtHint_90 : decode cX4_admitAtHint 90 = .ok (.getfield 182, 3) := by decide +kernel
theorem dX4_admitAtHint_93 : decode cX4_admitAtHint 93 = .ok (.iload_n 1, 1) := by decide +kernel
theorem dX4_admitAtHint_94 : decode cX4_admitAtHint 94 = .ok (.iaload, 1) := by decide +kernel
theorem dX4_admitAtHint_95 : decode cX4_admitAtHint 95 = .ok (.invokevirtual 214, 3) := by decide +kernel
theorem dX4_admitAtHint_98 : decode cX4_admitAtHint 98 = .ok (.iload_n 2, 1) := by decide +kernel
theorem dX4_admitAtHint_99 : decode cX4_admitAtHint 99 = .ok (.iconst 1, 1) := by decide +kernel
theorem dX4_admitAtHint_100 : decode cX4_admitAtHint 100 = .ok (.if_icmp .ne 12, 3) := by decide +kernel
theorem dX4_admitAtHint_103 : decode cX4_admitAtHint 103 = .ok (.iload_n 3, 1) := by decide +kernel
theorem dX4_admitAtHint_104 : decode cX4_admitAtHint 104 = .ok (.iconst 1, 1) := by decide +kernel
theorem dX4_admitAtHint_105 : decode cX4_admitAtHint 105 = .ok (.if_icmp .ne 7, 3) := by decide +kernel
theorem dX4_admitAtHint_108 : decode cX4_admitAtHint 108 = .ok (.iconst 1, 1) := by decide +kernel
theorem dX4_admitAtHint_109 : decode cX4_admitAtHint 109 = .ok (.goto 4, 3) := by decide +kernel
theorem dX4_admitAtHint_112 : decode cX4_admitAtHint 112 = .ok (.iconst 0, 1) := by decide +kernel
theorem dX4_admitAtHint_113 : decode cX4_admitAtHint 113 = .ok (.ireturn, 1) := by decide +kernel
