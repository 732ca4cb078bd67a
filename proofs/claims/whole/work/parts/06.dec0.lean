theorem dX0_init_0 : decode cX0_init 0 = .ok (.aload_n 0, 1) := by decide +kernel
theorem dX0_init_1 : decode cX0_init 1 = .ok (.invokespecial 3, 3) := by decide +kernel
theorem dX0_init_4 : decode cX0_init 4 = .ok (.aload_n 0, 1) := by decide +kernel
theorem dX0_init_5 : decode cX0_init 5 = .ok (.bipush 16, 2) := by decide +kernel
theorem dX0_init_7 : decode cX0_init 7 = .ok (.newarray .int, 2) := by decide +kernel
theorem dX0_init_9 : decode cX0_init 9 = .ok (.putfield 9, 3) := by decide +kernel
theorem dX0_init_12 : decode cX0_init 12 = .ok (.aload_n 0, 1) := by decide +kernel
theorem dX0_init_13 : decode cX0_init 13 = .ok (.bipush 17, 2) := by decide +kernel
theorem dX0_init_15 : decode cX0_init 15 = .ok (.newarray .int, 2) := by decide +kernel
theorem dX0_init_17 : decode cX0_init 17 = .ok (.putfield 15, 3) := by decide +kernel
theorem dX0_init_20 : decode cX0_init 20 = .ok (.aload_n 0, 1) := by decide +kernel
theorem dX0_init_21 : decode cX0_init 21 = .ok (.bipush 17, 2) := by decide +kernel
theorem dX0_init_23 : decode cX0_init 23 = .ok (.newarray .int, 2) := by decide +kernel
theorem dX0_init_25 : decode cX0_init 25 = .ok (.putfield 18, 3) := by decide +kernel
theorem dX0_init_28 : decode cX0_init 28 = .ok (.return_, 1) := by decide +kernel
theorem dX0_loosen_0 : decode cX0_loosen 0 = .ok (.iconst 0, 1) := by decide +kernel
theorem dX0_loosen_1 : decode cX0_loosen 1 = .ok (.istore_n 1, 1) := by decide +kernel
theorem dX0_loosen_2 : decode cX0_loosen 2 = .ok (.iload_n 1, 1) := by decide +kernel
theorem dX0_loosen_3 : decode cX0_loosen 3 = .ok (.aload_n 0, 1) := by decide +kernel
theorem dX0_loosen_4 : decode cX0_loosen 4 = .ok (.getfield 15, 3) := by decide +kernel
theorem dX0_loosen_7 : decode cX0_loosen 7 = .ok (.arraylength, 1) := by decide +kernel
theorem dX0_loosen_8 : decode cX0_loosen 8 = .ok (.if_icmp .ge 23, 3) := by decide +kernel
theorem dX0_loosen_11 : decode cX0_loosen 11 = .ok (.aload_n 0, 1) := by decide +kernel
theorem dX0_loosen_12 : decode cX0_loosen 12 = .ok (.getfield 15, 3) := by decide +kernel
theorem dX0_loosen_15 : decode cX0_loosen 15 = .ok (.iload_n 1, 1) := by decide +kernel
theorem dX0_loosen_16 : decode cX0_loosen 16 = .ok (.iload_n 1, 1) := by decide +kernel
theorem dX0_loosen_17 : decode cX0_loosen 17 = .ok (.iastore, 1) := by decide +kernel
theorem dX0_loosen_18 : decode cX0_loosen 18 = .ok (.aload_n 0, 1) := by decide +kernel
theorem dX0_loosen_19 : decode cX0_loosen 19 = .ok (.getfield 18, 3) := by decide +kernel
theorem dX0_loosen_22 : decode cX0_loosen 22 = .ok (.iload_n 1, 1) := by decide +kernel
theorem dX0_loosen_23 : decode cX0_loosen 23 = .ok (.iconst 0, 1) := by decide +kernel
theorem dX0_loosen_24 : decode cX0_loosen 24 = .ok (.iastore, 1) := by decide +kernel
theorem dX0_loosen_25 : decode cX0_loosen 25 = .ok (.iinc 1 1, 3) := by decide +kernel
theorem dX0_loosen_28 : decode cX0_loosen 28 = .ok (.goto (-26), 3) := by decide +kernel
theorem dX0_loosen_31 : decode cX0_loosen 31 = .ok (.return_, 1) := by decide +kernel
theorem dX0_judge_0 : decode cX0_judge 0 = .ok (.aload_n 0, 1) := by decide +kernel
theorem dX0_judge_1 : decode cX0_judge 1 = .ok (.getfield 15, 3) := by decide +kernel
theorem dX0_judge_4 : decode cX0_judge 4 = .ok (.iload_n 1, 1) := by decide +kernel
theorem dX0_judge_5 : decode cX0_judge 5 = .ok (.iaload, 1) := by decide +kernel
theorem dX0_judge_6 : decode cX0_judge 6 = .ok (.aload_n 0, 1) := by decide +kernel
theorem dX0_judge_7 : decode cX0_judge 7 = .ok (.getfield 15, 3) := by decide +kernel
theorem dX0_judge_10 : decode cX0_judge 10 = .ok (.iload_n 2, 1) := by decide +kernel
theorem dX0_judge_11 : decode cX0_judge 11 = .ok (.iaload, 1) := by decide +kernel
theorem dX0_judge_12 : decode cX0_judge 12 = .ok (.if_icmp .eq 5, 3) := by decide +kernel
theorem dX0_judge_15 : decode cX0_judge 15 = .ok (.iconst 0, 1) := by decide +kernel
theorem dX0_judge_16 : decode cX0_judge 16 = .ok (.ireturn, 1) := by decide +kernel
theorem dX0_judge_17 : decode cX0_judge 17 = .ok (.aload_n 0, 1) := by decide +kernel
theorem dX0_judge_18 : decode cX0_judge 18 = .ok (.getfield 18, 3) := by decide +kernel
theorem dX0_judge_21 : decode cX0_judge 21 = .ok (.iload_n 2, 1) := by decide +kernel
theorem dX0_judge_22 : decode cX0_judge 22 = .ok (.iaload, 1) := by decide +kernel
theorem dX0_judge_23 : decode cX0_judge 23 = .ok (.aload_n 0, 1) := by decide +kernel
theorem dX0_judge_24 : decode cX0_judge 24 = .ok (.getfield 18, 3) := by decide +kernel
theorem dX0_judge_27 : decode cX0_judge 27 = .ok (.iload_n 1, 1) := by decide +kernel
theorem dX0_judge_28 : decode cX0_judge 28 = .ok (.iaload, 1) := by decide +kernel
theorem dX0_judge_29 : decode cX0_judge 29 = .ok (.isub, 1) := by decide +kernel
theorem dX0_judge_30 : decode cX0_judge 30 = .ok (.iload_n 3, 1) := by decide +kernel
theorem dX0_judge_31 : decode cX0_judge 31 = .ok (.if_icmp .ne 7, 3) := by decide +kernel
theorem dX0_judge_34 : decode cX0_judge 34 = .ok (.iconst 1, 1) := by decide +kernel
theorem dX0_judge_35 : decode cX0_judge 35 = .ok (.goto 4, 3) := by decide +kernel
theorem dX0_judge_38 : decode cX0_judge 38 = .ok (.iconst 2, 1) := by decide +kernel
theorem dX0_judge_39 : decode cX0_judge 39 = .ok (.ireturn, 1) := by decide +kernel
theorem dX0_join_0 : decode cX0_join 0 = .ok (.aload_n 0, 1) := by decide +kernel
theorem dX0_join_1 : decode cX0_join 1 = .ok (.getfield 15, 3) := by decide +kernel
theorem dX0_join_4 : decode cX0_join 4 = .ok (.iload_n 1, 1) := by decide +kernel
theorem dX0_join_5 : decode cX0_join 5 = .ok (.iaload, 1) := by decide +kernel
theorem dX0_join_6 : decode cX0_join 6 = .ok (.istore 4, 2) := by decide +kernel
theorem dX0_join_8 : decode cX0_join 8 = .ok (.aload_n 0, 1) := by decide +kernel
theorem dX0_join_9 : decode cX0_join 9 = .ok (.getfield 15, 3) := by decide +kernel
theorem dX0_join_12 : decode cX0_join 12 = .ok (.iload_n 2, 1) := by decide +kernel
theorem dX0_join_13 : decode cX0_join 13 = .ok (.iaload, 1) := by decide +kernel
theorem dX0_join_14 : decode cX0_join 14 = .ok (.istore 5, 2) := by decide +kernel
theorem dX0_join_16 : decode cX0_join 16 = .ok (.aload_n 0, 1) := by decide +kernel
theorem dX0_join_17 : decode cX0_join 17 = .ok (.getfield 18, 3) := by decide +kernel
theorem dX0_join_20 : decode cX0_join 20 = .ok (.iload_n 1, 1) := by decide +kernel
theorem dX0_join_21 : decode cX0_join 21 = .ok (.iaload, 1) := by decide +kernel
theorem dX0_join_22 : decode cX0_join 22 = .ok (.iload_n 3, 1) := by decide +kernel
theorem dX0_join_23 : decode cX0_join 23 = .ok (.iadd, 1) := by decide +kernel
theorem dX0_join_24 : decode cX0_join 24 = .ok (.aload_n 0, 1) := by decide +kernel
theorem dX0_join_25 : decode cX0_join 25 = .ok (.getfield 18, 3) := by decide +kernel
theorem dX0_join_28 : decode cX0_join 28 = .ok (.iload_n 2, 1) := by decide +kernel
theorem dX0_join_29 : decode cX0_join 29 = .ok (.iaload, 1) := by decide +kernel
theorem dX0_join_30 : decode cX0_join 30 = .ok (.isub, 1) := by decide +kernel
theorem dX0_join_31 : decode cX0_join 31 = .ok (.istore 6, 2) := by decide +kernel
theorem dX0_join_33 : decode cX0_join 33 = .ok (.iconst 0, 1) := by decide +kernel
theorem dX0_join_34 : decode cX0_join 34 = .ok (.istore 7, 2) := by decide +kernel
theorem dX0_join_36 : decode cX0_join 36 = .ok (.iload 7, 2) := by decide +kernel
theorem dX0_join_38 : decode cX0_join 38 = .ok (.aload_n 0, 1) := by decide +kernel
theorem dX0_join_39 : decode cX0_join 39 = .ok (.getfield 15, 3) := by decide +kernel
theorem dX0_join_42 : decode cX0_join 42 = .ok (.arraylength, 1) := by decide +kernel
theorem dX0_join_43 : decode cX0_join 43 = .ok (.if_icmp .ge 42, 3) := by decide +kernel
theorem dX0_join_46 : decode cX0_join 46 = .ok (.aload_n 0, 1) := by decide +kernel
theorem dX0_join_47 : decode cX0_join 47 = .ok (.getfield 15, 3) := by decide +kernel
theorem dX0_join_50 : decode cX0_join 50 = .ok (.iload 7, 2) := by decide +kernel
theorem dX0_join_52 : decode cX0_join 52 = .ok (.iaload, 1) := by decide +kernel
theorem dX0_join_53 : decode cX0_join 53 = .ok (.iload 5, 2) := by decide +kernel
theorem dX0_join_55 : decode cX0_join 55 = .ok (.if_icmp .ne 24, 3) := by decide +kernel
theorem dX0_join_58 : decode cX0_join 58 = .ok (.aload_n 0, 1) := by decide +kernel
theorem dX0_join_59 : decode cX0_join 59 = .ok (.getfield 15, 3) := by decide +kernel
theorem dX0_join_62 : decode cX0_join 62 = .ok (.iload 7, 2) := by decide +kernel
theorem dX0_join_64 : decode cX0_join 64 = .ok (.iload 4, 2) := by decide +kernel
theorem dX0_join_66 : decode cX0_join 66 = .ok (.iastore, 1) := by decide +kernel
theorem dX0_join_67 : decode cX0_join 67 = .ok (.aload_n 0, 1) := by decide +kernel
theorem dX0_join_68 : decode cX0_join 68 = .ok (.getfield 18, 3) := by decide +kernel
theorem dX0_join_71 : decode cX0_join 71 = .ok (.iload 7, 2) := by decide +kernel
theorem dX0_join_73 : decode cX0_join 73 = .ok (.dup2, 1) := by decide +kernel
theorem dX0_join_74 : decode cX0_join 74 = .ok (.iaload, 1) := by decide +kernel
theorem dX0_join_75 : decode cX0_join 75 = .ok (.iload 6, 2) := by decide +kernel
theorem dX0_join_77 : decode cX0_join 77 = .ok (.iadd, 1) := by decide +kernel
theorem dX0_join_78 : decode cX0_join 78 = .ok (.iastore, 1) := by decide +kernel
theorem dX0_join_79 : decode cX0_join 79 = .ok (.iinc 7 1, 3) := by decide +kernel
theorem dX0_join_82 : decode cX0_join 82 = .ok (.goto (-46), 3) := by decide +kernel
theorem dX0_join_85 : decode cX0_join 85 = .ok (.return_, 1) := by decide +kernel
theorem dX0_pinFreeGroups_0 : decode cX0_pinFreeGroups 0 = .ok (.aload_n 0, 1) := by decide +kernel
theorem dX0_pinFreeGroups_1 : decode cX0_pinFreeGroups 1 = .ok (.iconst 0, 1) := by decide +kernel
theorem dX0_pinFreeGroups_2 : decode cX0_pinFreeGroups 2 = .ok (.putfield 21, 3) := by decide +kernel
theorem dX0_pinFreeGroups_5 : decode cX0_pinFreeGroups 5 = .ok (.iconst 0, 1) := by decide +kernel
theorem dX0_pinFreeGroups_6 : decode cX0_pinFreeGroups 6 = .ok (.istore_n 2, 1) := by decide +kernel
theorem dX0_pinFreeGroups_7 : decode cX0_pinFreeGroups 7 = .ok (.iload_n 2, 1) := by decide +kernel
theorem dX0_pinFreeGroups_8 : decode cX0_pinFreeGroups 8 = .ok (.iload_n 1, 1) := by decide +kernel
theorem dX0_pinFreeGroups_9 : decode cX0_pinFreeGroups 9 = .ok (.if_icmp .ge 48, 3) := by decide +kernel
theorem dX0_pinFreeGroups_12 : decode cX0_pinFreeGroups 12 = .ok (.aload_n 0, 1) := by decide +kernel
theorem dX0_pinFreeGroups_13 : decode cX0_pinFreeGroups 13 = .ok (.getfield 15, 3) := by decide +kernel
theorem dX0_pinFreeGroups_16 : decode cX0_pinFreeGroups 16 = .ok (.iload_n 2, 1) := by decide +kernel
theorem dX0_pinFreeGroups_17 : decode cX0_pinFreeGroups 17 = .ok (.iaload, 1) := by decide +kernel
theorem dX0_pinFreeGroups_18 : decode cX0_pinFreeGroups 18 = .ok (.aload_n 0, 1) := by decide +kernel
theorem dX0_pinFreeGroups_19 : decode cX0_pinFreeGroups 19 = .ok (.getfield 15, 3) := by decide +kernel
theorem dX0_pinFreeGroups_22 : decode cX0_pinFreeGroups 22 = .ok (.bipush 16, 2) := by decide +kernel
theorem dX0_pinFreeGroups_24 : decode cX0_pinFreeGroups 24 = .ok (.iaload, 1) := by decide +kernel
theorem dX0_pinFreeGroups_25 : decode cX0_pinFreeGroups 25 = .ok (.if_icmp .eq 26, 3) := by decide +kernel
theorem dX0_pinFreeGroups_28 : decode cX0_pinFreeGroups 28 = .ok (.aload_n 0, 1) := by decide +kernel
theorem dX0_pinFreeGroups_29 : decode cX0_pinFreeGroups 29 = .ok (.dup, 1) := by decide +kernel
theorem dX0_pinFreeGroups_30 : decode cX0_pinFreeGroups 30 = .ok (.getfield 21, 3) := by decide +kernel
theorem dX0_pinFreeGroups_33 : decode cX0_pinFreeGroups 33 = .ok (.iconst 1, 1) := by decide +kernel
theorem dX0_pinFreeGroups_34 : decode cX0_pinFreeGroups 34 = .ok (.iadd, 1) := by decide +kernel
theorem dX0_pinFreeGroups_35 : decode cX0_pinFreeGroups 35 = .ok (.putfield 21, 3) := by decide +kernel
theorem dX0_pinFreeGroups_38 : decode cX0_pinFreeGroups 38 = .ok (.aload_n 0, 1) := by decide +kernel
theorem dX0_pinFreeGroups_39 : decode cX0_pinFreeGroups 39 = .ok (.bipush 16, 2) := by decide +kernel
theorem dX0_pinFreeGroups_41 : decode cX0_pinFreeGroups 41 = .ok (.iload_n 2, 1) := by decide +kernel
theorem dX0_pinFreeGroups_42 : decode cX0_pinFreeGroups 42 = .ok (.aload_n 0, 1) := by decide +kernel
theorem dX0_pinFreeGroups_43 : decode cX0_pinFreeGroups 43 = .ok (.getfield 9, 3) := by decide +kernel
theorem dX0_pinFreeGroups_46 : decode cX0_pinFreeGroups 46 = .ok (.iload_n 2, 1) := by decide +kernel
theorem dX0_pinFreeGroups_47 : decode cX0_pinFreeGroups 47 = .ok (.iaload, 1) := by decide +kernel
theorem dX0_pinFreeGroups_48 : decode cX0_pinFreeGroups 48 = .ok (.invokevirtual 25, 3) := by decide +kernel
theorem dX0_pinFreeGroups_51 : decode cX0_pinFreeGroups 51 = .ok (.iinc 2 1, 3) := by decide +kernel
theorem dX0_pinFreeGroups_54 : decode cX0_pinFreeGroups 54 = .ok (.goto (-47), 3) := by decide +kernel
theorem dX0_pinFreeGroups_57 : decode cX0_pinFreeGroups 57 = .ok (.return_, 1) := by decide +kernel
theorem dX0_placeOf_0 : decode cX0_placeOf 0 = .ok (.aload_n 0, 1) := by decide +kernel
theorem dX0_placeOf_1 : decode cX0_placeOf 1 = .ok (.getfield 18, 3) := by decide +kernel
theorem dX0_placeOf_4 : decode cX0_placeOf 4 = .ok (.iload_n 1, 1) := by decide +kernel
theorem dX0_placeOf_5 : decode cX0_placeOf 5 = .ok (.iaload, 1) := by decide +kernel
theorem dX0_placeOf_6 : decode cX0_placeOf 6 = .ok (.aload_n 0, 1) := by decide +kernel
theorem dX0_placeOf_7 : decode cX0_placeOf 7 = .ok (.getfield 18, 3) := by decide +kernel
theorem dX0_placeOf_10 : decode cX0_placeOf 10 = .ok (.bipush 16, 2) := by decide +kernel
theorem dX0_placeOf_12 : decode cX0_placeOf 12 = .ok (.iaload, 1) := by decide +kernel
theorem dX0_placeOf_13 : decode cX0_placeOf 13 = .ok (.isub, 1) := by decide +kernel
theorem dX0_placeOf_14 : decode cX0_placeOf 14 = .ok (.ireturn, 1) := by decide +kernel
