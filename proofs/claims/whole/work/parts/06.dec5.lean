theorem dX5_init_0 : decode cX5_init 0 = .ok (.aload_n 0, 1) := by decide +kernel
theorem dX5_init_1 : decode cX5_init 1 = .ok (.invokespecial 1, 3) := by decide +kernel
theorem dX5_init_4 : decode cX5_init 4 = .ok (.aload_n 0, 1) := by decide +kernel
theorem dX5_init_5 : decode cX5_init 5 = .ok (.bipush 16, 2) := by decide +kernel
theorem dX5_init_7 : decode cX5_init 7 = .ok (.newarray .int, 2) := by decide +kernel
theorem dX5_init_9 : decode cX5_init 9 = .ok (.putfield 7, 3) := by decide +kernel
theorem dX5_init_12 : decode cX5_init 12 = .ok (.aload_n 0, 1) := by decide +kernel
theorem dX5_init_13 : decode cX5_init 13 = .ok (.bipush 16, 2) := by decide +kernel
theorem dX5_init_15 : decode cX5_init 15 = .ok (.newarray .int, 2) := by decide +kernel
theorem dX5_init_17 : decode cX5_init 17 = .ok (.putfield 13, 3) := by decide +kernel
theorem dX5_init_20 : decode cX5_init 20 = .ok (.aload_n 0, 1) := by decide +kernel
theorem dX5_init_21 : decode cX5_init 21 = .ok (.bipush 40, 2) := by decide +kernel
theorem dX5_init_23 : decode cX5_init 23 = .ok (.newarray .int, 2) := by decide +kernel
theorem dX5_init_25 : decode cX5_init 25 = .ok (.putfield 16, 3) := by decide +kernel
theorem dX5_init_28 : decode cX5_init 28 = .ok (.aload_n 0, 1) := by decide +kernel
theorem dX5_init_29 : decode cX5_init 29 = .ok (.bipush 40, 2) := by decide +kernel
theorem dX5_init_31 : decode cX5_init 31 = .ok (.newarray .int, 2) := by decide +kernel
theorem dX5_init_33 : decode cX5_init 33 = .ok (.putfield 19, 3) := by decide +kernel
theorem dX5_init_36 : decode cX5_init 36 = .ok (.aload_n 0, 1) := by decide +kernel
theorem dX5_init_37 : decode cX5_init 37 = .ok (.bipush 40, 2) := by decide +kernel
theorem dX5_init_39 : decode cX5_init 39 = .ok (.newarray .int, 2) := by decide +kernel
theorem dX5_init_41 : decode cX5_init 41 = .ok (.putfield 22, 3) := by decide +kernel
theorem dX5_init_44 : decode cX5_init 44 = .ok (.aload_n 0, 1) := by decide +kernel
theorem dX5_init_45 : decode cX5_init 45 = .ok (.bipush 40, 2) := by decide +kernel
theorem dX5_init_47 : decode cX5_init 47 = .ok (.newarray .int, 2) := by decide +kernel
theorem dX5_init_49 : decode cX5_init 49 = .ok (.putfield 25, 3) := by decide +kernel
theorem dX5_init_52 : decode cX5_init 52 = .ok (.aload_n 0, 1) := by decide +kernel
theorem dX5_init_53 : decode cX5_init 53 = .ok (.bipush 40, 2) := by decide +kernel
theorem dX5_init_55 : decode cX5_init 55 = .ok (.newarray .int, 2) := by decide +kernel
theorem dX5_init_57 : decode cX5_init 57 = .ok (.putfield 28, 3) := by decide +kernel
theorem dX5_init_60 : decode cX5_init 60 = .ok (.aload_n 0, 1) := by decide +kernel
theorem dX5_init_61 : decode cX5_init 61 = .ok (.sipush 160, 3) := by decide +kernel
theorem dX5_init_64 : decode cX5_init 64 = .ok (.newarray .int, 2) := by decide +kernel
theorem dX5_init_66 : decode cX5_init 66 = .ok (.putfield 31, 3) := by decide +kernel
theorem dX5_init_69 : decode cX5_init 69 = .ok (.aload_n 0, 1) := by decide +kernel
theorem dX5_init_70 : decode cX5_init 70 = .ok (.sipush 160, 3) := by decide +kernel
theorem dX5_init_73 : decode cX5_init 73 = .ok (.newarray .boolean, 2) := by decide +kernel
theorem dX5_init_75 : decode cX5_init 75 = .ok (.putfield 34, 3) := by decide +kernel
theorem dX5_init_78 : decode cX5_init 78 = .ok (.aload_n 0, 1) := by decide +kernel
theorem dX5_init_79 : decode cX5_init 79 = .ok (.bipush 34, 2) := by decide +kernel
theorem dX5_init_81 : decode cX5_init 81 = .ok (.newarray .int, 2) := by decide +kernel
theorem dX5_init_83 : decode cX5_init 83 = .ok (.putfield 38, 3) := by decide +kernel
theorem dX5_init_86 : decode cX5_init 86 = .ok (.aload_n 0, 1) := by decide +kernel
theorem dX5_init_87 : decode cX5_init 87 = .ok (.bipush 34, 2) := by decide +kernel
theorem dX5_init_89 : decode cX5_init 89 = .ok (.newarray .int, 2) := by decide +kernel
theorem dX5_init_91 : decode cX5_init 91 = .ok (.putfield 41, 3) := by decide +kernel
theorem dX5_init_94 : decode cX5_init 94 = .ok (.aload_n 0, 1) := by decide +kernel
theorem dX5_init_95 : decode cX5_init 95 = .ok (.bipush 8, 2) := by decide +kernel
theorem dX5_init_97 : decode cX5_init 97 = .ok (.newarray .int, 2) := by decide +kernel
theorem dX5_init_99 : decode cX5_init 99 = .ok (.putfield 44, 3) := by decide +kernel
theorem dX5_init_102 : decode cX5_init 102 = .ok (.aload_n 0, 1) := by decide +kernel
theorem dX5_init_103 : decode cX5_init 103 = .ok (.bipush 8, 2) := by decide +kernel
theorem dX5_init_105 : decode cX5_init 105 = .ok (.newarray .int, 2) := by decide +kernel
theorem dX5_init_107 : decode cX5_init 107 = .ok (.putfield 47, 3) := by decide +kernel
theorem dX5_init_110 : decode cX5_init 110 = .ok (.aload_n 0, 1) := by decide +kernel
theorem dX5_init_111 : decode cX5_init 111 = .ok (.bipush 8, 2) := by decide +kernel
theorem dX5_init_113 : decode cX5_init 113 = .ok (.newarray .int, 2) := by decide +kernel
theorem dX5_init_115 : decode cX5_init 115 = .ok (.putfield 50, 3) := by decide +kernel
theorem dX5_init_118 : decode cX5_init 118 = .ok (.aload_n 0, 1) := by decide +kernel
theorem dX5_init_119 : decode cX5_init 119 = .ok (.bipush 8, 2) := by decide +kernel
theorem dX5_init_121 : decode cX5_init 121 = .ok (.newarray .int, 2) := by decide +kernel
theorem dX5_init_123 : decode cX5_init 123 = .ok (.putfield 53, 3) := by decide +kernel
theorem dX5_init_126 : decode cX5_init 126 = .ok (.aload_n 0, 1) := by decide +kernel
theorem dX5_init_127 : decode cX5_init 127 = .ok (.bipush 36, 2) := by decide +kernel
theorem dX5_init_129 : decode cX5_init 129 = .ok (.newarray .int, 2) := by decide +kernel
theorem dX5_init_131 : decode cX5_init 131 = .ok (.putfield 56, 3) := by decide +kernel
theorem dX5_init_134 : decode cX5_init 134 = .ok (.aload_n 0, 1) := by decide +kernel
theorem dX5_init_135 : decode cX5_init 135 = .ok (.bipush 8, 2) := by decide +kernel
theorem dX5_init_137 : decode cX5_init 137 = .ok (.newarray .int, 2) := by decide +kernel
theorem dX5_init_139 : decode cX5_init 139 = .ok (.putfield 59, 3) := by decide +kernel
theorem dX5_init_142 : decode cX5_init 142 = .ok (.aload_n 0, 1) := by decide +kernel
theorem dX5_init_143 : decode cX5_init 143 = .ok (.bipush 9, 2) := by decide +kernel
theorem dX5_init_145 : decode cX5_init 145 = .ok (.newarray .boolean, 2) := by decide +kernel
theorem dX5_init_147 : decode cX5_init 147 = .ok (.putfield 62, 3) := by decide +kernel
theorem dX5_init_150 : decode cX5_init 150 = .ok (.aload_n 0, 1) := by decide +kernel
theorem dX5_init_151 : decode cX5_init 151 = .ok (.bipush 18, 2) := by decide +kernel
theorem dX5_init_153 : decode cX5_init 153 = .ok (.newarray .int, 2) := by decide +kernel
theorem dX5_init_155 : decode cX5_init 155 = .ok (.putfield 65, 3) := by decide +kernel
theorem dX5_init_158 : decode cX5_init 158 = .ok (.aload_n 0, 1) := by decide +kernel
theorem dX5_init_159 : decode cX5_init 159 = .ok (.bipush 18, 2) := by decide +kernel
theorem dX5_init_161 : decode cX5_init 161 = .ok (.newarray .int, 2) := by decide +kernel
theorem dX5_init_163 : decode cX5_init 163 = .ok (.putfield 68, 3) := by decide +kernel
theorem dX5_init_166 : decode cX5_init 166 = .ok (.aload_n 0, 1) := by decide +kernel
theorem dX5_init_167 : decode cX5_init 167 = .ok (.bipush 18, 2) := by decide +kernel
theorem dX5_init_169 : decode cX5_init 169 = .ok (.newarray .int, 2) := by decide +kernel
theorem dX5_init_171 : decode cX5_init 171 = .ok (.putfield 71, 3) := by decide +kernel
theorem dX5_init_174 : decode cX5_init 174 = .ok (.return_, 1) := by decide +kernel
theorem dX5_thrown_0 : decode cX5_thrown 0 = .ok (.aload_n 0, 1) := by decide +kernel
theorem dX5_thrown_1 : decode cX5_thrown 1 = .ok (.getfield 74, 3) := by decide +kernel
theorem dX5_thrown_4 : decode cX5_thrown 4 = .ok (.ireturn, 1) := by decide +kernel
theorem dX5_refuses_0 : decode cX5_refuses 0 = .ok (.aload_n 0, 1) := by decide +kernel
theorem dX5_refuses_1 : decode cX5_refuses 1 = .ok (.iload_n 1, 1) := by decide +kernel
theorem dX5_refuses_2 : decode cX5_refuses 2 = .ok (.putfield 74, 3) := by decide +kernel
theorem dX5_refuses_5 : decode cX5_refuses 5 = .ok (.iconst 0, 1) := by decide +kernel
theorem dX5_refuses_6 : decode cX5_refuses 6 = .ok (.ireturn, 1) := by decide +kernel
theorem dX5_in_0 : decode cX5_in 0 = .ok (.iload_n 0, 1) := by decide +kernel
theorem dX5_in_1 : decode cX5_in 1 = .ok (.iload_n 1, 1) := by decide +kernel
theorem dX5_in_2 : decode cX5_in 2 = .ok (.if_icmp .lt 12, 3) := by decide +kernel
theorem dX5_in_5 : decode cX5_in 5 = .ok (.iload_n 0, 1) := by decide +kernel
theorem dX5_in_6 : decode cX5_in 6 = .ok (.iload_n 2, 1) := by decide +kernel
theorem dX5_in_7 : decode cX5_in 7 = .ok (.if_icmp .gt 7, 3) := by decide +kernel
theorem dX5_in_10 : decode cX5_in 10 = .ok (.iconst 1, 1) := by decide +kernel
theorem dX5_in_11 : decode cX5_in 11 = .ok (.goto 4, 3) := by decide +kernel
theorem dX5_in_14 : decode cX5_in 14 = .ok (.iconst 0, 1) := by decide +kernel
theorem dX5_in_15 : decode cX5_in 15 = .ok (.ireturn, 1) := by decide +kernel
theorem dX5_isNear_0 : decode cX5_isNear 0 = .ok (.iload_n 0, 1) := by decide +kernel
theorem dX5_isNear_1 : decode cX5_isNear 1 = .ok (.bipush (-100), 2) := by decide +kernel
theorem dX5_isNear_3 : decode cX5_isNear 3 = .ok (.bipush 100, 2) := by decide +kernel
theorem dX5_isNear_5 : decode cX5_isNear 5 = .ok (.invokestatic 78, 3) := by decide +kernel
theorem dX5_isNear_8 : decode cX5_isNear 8 = .ok (.ireturn, 1) := by decide +kernel
theorem dX5_isPoint_0 : decode cX5_isPoint 0 = .ok (.iload_n 1, 1) := by decide +kernel
theorem dX5_isPoint_1 : decode cX5_isPoint 1 = .ok (.iconst 0, 1) := by decide +kernel
theorem dX5_isPoint_2 : decode cX5_isPoint 2 = .ok (.aload_n 0, 1) := by decide +kernel
theorem dX5_isPoint_3 : decode cX5_isPoint 3 = .ok (.getfield 82, 3) := by decide +kernel
theorem dX5_isPoint_6 : decode cX5_isPoint 6 = .ok (.iconst 1, 1) := by decide +kernel
theorem dX5_isPoint_7 : decode cX5_isPoint 7 = .ok (.isub, 1) := by decide +kernel
theorem dX5_isPoint_8 : decode cX5_isPoint 8 = .ok (.invokestatic 78, 3) := by decide +kernel
theorem dX5_isPoint_11 : decode cX5_isPoint 11 = .ok (.ireturn, 1) := by decide +kernel
theorem dX5_isWish_0 : decode cX5_isWish 0 = .ok (.iload_n 1, 1) := by decide +kernel
theorem dX5_isWish_1 : decode cX5_isWish 1 = .ok (.iconst 0, 1) := by decide +kernel
theorem dX5_isWish_2 : decode cX5_isWish 2 = .ok (.aload_n 0, 1) := by decide +kernel
theorem dX5_isWish_3 : decode cX5_isWish 3 = .ok (.getfield 85, 3) := by decide +kernel
theorem dX5_isWish_6 : decode cX5_isWish 6 = .ok (.iconst 1, 1) := by decide +kernel
theorem dX5_isWish_7 : decode cX5_isWish 7 = .ok (.isub, 1) := by decide +kernel
theorem dX5_isWish_8 : decode cX5_isWish 8 = .ok (.invokestatic 78, 3) := by decide +kernel
theorem dX5_isWish_11 : decode cX5_isWish 11 = .ok (.ireturn, 1) := by decide +kernel
theorem dX5_holds_0 : decode cX5_holds 0 = .ok (.bipush 17, 2) := by decide +kernel
theorem dX5_holds_2 : decode cX5_holds 2 = .ok (.iload_n 1, 1) := by decide +kernel
theorem dX5_holds_3 : decode cX5_holds 3 = .ok (.imul, 1) := by decide +kernel
theorem dX5_holds_4 : decode cX5_holds 4 = .ok (.iload_n 2, 1) := by decide +kernel
theorem dX5_holds_5 : decode cX5_holds 5 = .ok (.iadd, 1) := by decide +kernel
theorem dX5_holds_6 : decode cX5_holds 6 = .ok (.istore 5, 2) := by decide +kernel
theorem dX5_holds_8 : decode cX5_holds 8 = .ok (.bipush 17, 2) := by decide +kernel
theorem dX5_holds_10 : decode cX5_holds 10 = .ok (.iload_n 1, 1) := by decide +kernel
theorem dX5_holds_11 : decode cX5_holds 11 = .ok (.imul, 1) := by decide +kernel
theorem dX5_holds_12 : decode cX5_holds 12 = .ok (.iload_n 3, 1) := by decide +kernel
theorem dX5_holds_13 : decode cX5_holds 13 = .ok (.iadd, 1) := by decide +kernel
theorem dX5_holds_14 : decode cX5_holds 14 = .ok (.istore 6, 2) := by decide +kernel
theorem dX5_holds_16 : decode cX5_holds 16 = .ok (.aload_n 0, 1) := by decide +kernel
theorem dX5_holds_17 : decode cX5_holds 17 = .ok (.getfield 38, 3) := by decide +kernel
theorem dX5_holds_20 : decode cX5_holds 20 = .ok (.iload 5, 2) := by decide +kernel
theorem dX5_holds_22 : decode cX5_holds 22 = .ok (.iaload, 1) := by decide +kernel
theorem dX5_holds_23 : decode cX5_holds 23 = .ok (.aload_n 0, 1) := by decide +kernel
theorem dX5_holds_24 : decode cX5_holds 24 = .ok (.getfield 38, 3) := by decide +kernel
theorem dX5_holds_27 : decode cX5_holds 27 = .ok (.iload 6, 2) := by decide +kernel
theorem dX5_holds_29 : decode cX5_holds 29 = .ok (.iaload, 1) := by decide +kernel
theorem dX5_holds_30 : decode cX5_holds 30 = .ok (.if_icmp .eq 7, 3) := by decide +kernel
theorem dX5_holds_33 : decode cX5_holds 33 = .ok (.iconst 0, 1) := by decide +kernel
theorem dX5_holds_34 : decode cX5_holds 34 = .ok (.goto 28, 3) := by decide +kernel
theorem dX5_holds_37 : decode cX5_holds 37 = .ok (.aload_n 0, 1) := by decide +kernel
theorem dX5_holds_38 : decode cX5_holds 38 = .ok (.getfield 41, 3) := by decide +kernel
theorem dX5_holds_41 : decode cX5_holds 41 = .ok (.iload 6, 2) := by decide +kernel
theorem dX5_holds_43 : decode cX5_holds 43 = .ok (.iaload, 1) := by decide +kernel
theorem dX5_holds_44 : decode cX5_holds 44 = .ok (.aload_n 0, 1) := by decide +kernel
theorem dX5_holds_45 : decode cX5_holds 45 = .ok (.getfield 41, 3) := by decide +kernel
theorem dX5_holds_48 : decode cX5_holds 48 = .ok (.iload 5, 2) := by decide +kernel
theorem dX5_holds_50 : decode cX5_holds 50 = .ok (.iaload, 1) := by decide +kernel
theorem dX5_holds_51 : decode cX5_holds 51 = .ok (.isub, 1) := by decide +kernel
theorem dX5_holds_52 : decode cX5_holds 52 = .ok (.iload 4, 2) := by decide +kernel
theorem dX5_holds_54 : decode cX5_holds 54 = .ok (.if_icmp .ne 7, 3) := by decide +kernel
theorem dX5_holds_57 : decode cX5_holds 57 = .ok (.iconst 1, 1) := by decide +kernel
theorem dX5_holds_58 : decode cX5_holds 58 = .ok (.goto 4, 3) := by decide +kernel
theorem dX5_holds_61 : decode cX5_holds 61 = .ok (.iconst 2, 1) := by decide +kernel
theorem dX5_holds_62 : decode cX5_holds 62 = .ok (.ireturn, 1) := by decide +kernel
theorem dX5_ties_0 : decode cX5_ties 0 = .ok (.bipush 17, 2) := by decide +kernel
theorem dX5_ties_2 : decode cX5_ties 2 = .ok (.iload_n 1, 1) := by decide +kernel
theorem dX5_ties_3 : decode cX5_ties 3 = .ok (.imul, 1) := by decide +kernel
theorem dX5_ties_4 : decode cX5_ties 4 = .ok (.iload_n 2, 1) := by decide +kernel
theorem dX5_ties_5 : decode cX5_ties 5 = .ok (.iadd, 1) := by decide +kernel
theorem dX5_ties_6 : decode cX5_ties 6 = .ok (.istore 5, 2) := by decide +kernel
theorem dX5_ties_8 : decode cX5_ties 8 = .ok (.bipush 17, 2) := by decide +kernel
theorem dX5_ties_10 : decode cX5_ties 10 = .ok (.iload_n 1, 1) := by decide +kernel
theorem dX5_ties_11 : decode cX5_ties 11 = .ok (.imul, 1) := by decide +kernel
theorem dX5_ties_12 : decode cX5_ties 12 = .ok (.iload_n 3, 1) := by decide +kernel
theorem dX5_ties_13 : decode cX5_ties 13 = .ok (.iadd, 1) := by decide +kernel
theorem dX5_ties_14 : decode cX5_ties 14 = .ok (.istore 6, 2) := by decide +kernel
theorem dX5_ties_16 : decode cX5_ties 16 = .ok (.aload_n 0, 1) := by decide +kernel
theorem dX5_ties_17 : decode cX5_ties 17 = .ok (.getfield 38, 3) := by decide +kernel
theorem dX5_ties_20 : decode cX5_ties 20 = .ok (.iload 6, 2) := by decide +kernel
theorem dX5_ties_22 : decode cX5_ties 22 = .ok (.iaload, 1) := by decide +kernel
theorem dX5_ties_23 : decode cX5_ties 23 = .ok (.istore 7, 2) := by decide +kernel
theorem dX5_ties_25 : decode cX5_ties 25 = .ok (.aload_n 0, 1) := by decide +kernel
theorem dX5_ties_26 : decode cX5_ties 26 = .ok (.getfield 41, 3) := by decide +kernel
theorem dX5_ties_29 : decode cX5_ties 29 = .ok (.iload 5, 2) := by decide +kernel
theorem dX5_ties_31 : decode cX5_ties 31 = .ok (.iaload, 1) := by decide +kernel
theorem dX5_ties_32 : decode cX5_ties 32 = .ok (.iload 4, 2) := by decide +kernel
theorem dX5_ties_34 : decode cX5_ties 34 = .ok (.iadd, 1) := by decide +kernel
theorem dX5_ties_35 : decode cX5_ties 35 = .ok (.aload_n 0, 1) := by decide +kernel
theorem dX5_ties_36 : decode cX5_ties 36 = .ok (.getfield 41, 3) := by decide +kernel
theorem dX5_ties_39 : decode cX5_ties 39 = .ok (.iload 6, 2) := by decide +kernel
theorem dX5_ties_41 : decode cX5_ties 41 = .ok (.iaload, 1) := by decide +kernel
theorem dX5_ties_42 : decode cX5_ties 42 = .ok (.isub, 1) := by decide +kernel
theorem dX5_ties_43 : decode cX5_ties 43 = .ok (.istore 8, 2) := by decide +kernel
theorem dX5_ties_45 : decode cX5_ties 45 = .ok (.bipush 17, 2) := by decide +kernel
theorem dX5_ties_47 : decode cX5_ties 47 = .ok (.iload_n 1, 1) := by decide +kernel
theorem dX5_ties_48 : decode cX5_ties 48 = .ok (.imul, 1) := by decide +kernel
theorem dX5_ties_49 : decode cX5_ties 49 = .ok (.istore 9, 2) := by decide +kernel
theorem dX5_ties_51 : decode cX5_ties 51 = .ok (.iload 9, 2) := by decide +kernel
theorem dX5_ties_53 : decode cX5_ties 53 = .ok (.bipush 17, 2) := by decide +kernel
theorem dX5_ties_55 : decode cX5_ties 55 = .ok (.iload_n 1, 1) := by decide +kernel
theorem dX5_ties_56 : decode cX5_ties 56 = .ok (.imul, 1) := by decide +kernel
theorem dX5_ties_57 : decode cX5_ties 57 = .ok (.bipush 17, 2) := by decide +kernel
theorem dX5_ties_59 : decode cX5_ties 59 = .ok (.iadd, 1) := by decide +kernel
theorem dX5_ties_60 : decode cX5_ties 60 = .ok (.if_icmp .ge 59, 3) := by decide +kernel
theorem dX5_ties_63 : decode cX5_ties 63 = .ok (.iload 7, 2) := by decide +kernel
theorem dX5_ties_65 : decode cX5_ties 65 = .ok (.aload_n 0, 1) := by decide +kernel
theorem dX5_ties_66 : decode cX5_ties 66 = .ok (.getfield 38, 3) := by decide +kernel
theorem dX5_ties_69 : decode cX5_ties 69 = .ok (.iload 5, 2) := by decide +kernel
theorem dX5_ties_71 : decode cX5_ties 71 = .ok (.iaload, 1) := by decide +kernel
theorem dX5_ties_72 : decode cX5_ties 72 = .ok (.if_icmp .eq 47, 3) := by decide +kernel
theorem dX5_ties_75 : decode cX5_ties 75 = .ok (.aload_n 0, 1) := by decide +kernel
theorem dX5_ties_76 : decode cX5_ties 76 = .ok (.getfield 38, 3) := by decide +kernel
theorem dX5_ties_79 : decode cX5_ties 79 = .ok (.iload 9, 2) := by decide +kernel
theorem dX5_ties_81 : decode cX5_ties 81 = .ok (.iaload, 1) := by decide +kernel
theorem dX5_ties_82 : decode cX5_ties 82 = .ok (.iload 7, 2) := by decide +kernel
theorem dX5_ties_84 : decode cX5_ties 84 = .ok (.if_icmp .ne 29, 3) := by decide +kernel
theorem dX5_ties_87 : decode cX5_ties 87 = .ok (.aload_n 0, 1) := by decide +kernel
theorem dX5_ties_88 : decode cX5_ties 88 = .ok (.getfield 38, 3) := by decide +kernel
theorem dX5_ties_91 : decode cX5_ties 91 = .ok (.iload 9, 2) := by decide +kernel
theorem dX5_ties_93 : decode cX5_ties 93 = .ok (.aload_n 0, 1) := by decide +kernel
theorem dX5_ties_94 : decode cX5_ties 94 = .ok (.getfield 38, 3) := by decide +kernel
theorem dX5_ties_97 : decode cX5_ties 97 = .ok (.iload 5, 2) := by decide +kernel
theorem dX5_ties_99 : decode cX5_ties 99 = .ok (.iaload, 1) := by decide +kernel
theorem dX5_ties_100 : decode cX5_ties 100 = .ok (.iastore, 1) := by decide +kernel
theorem dX5_ties_101 : decode cX5_ties 101 = .ok (.aload_n 0, 1) := by decide +kernel
theorem dX5_ties_102 : decode cX5_ties 102 = .ok (.getfield 41, 3) := by decide +kernel
theorem dX5_ties_105 : decode cX5_ties 105 = .ok (.iload 9, 2) := by decide +kernel
theorem dX5_ties_107 : decode cX5_ties 107 = .ok (.dup2, 1) := by decide +kernel
theorem dX5_ties_108 : decode cX5_ties 108 = .ok (.iaload, 1) := by decide +kernel
theorem dX5_ties_109 : decode cX5_ties 109 = .ok (.iload 8, 2) := by decide +kernel
theorem dX5_ties_111 : decode cX5_ties 111 = .ok (.iadd, 1) := by decide +kernel
theorem dX5_ties_112 : decode cX5_ties 112 = .ok (.iastore, 1) := by decide +kernel
theorem dX5_ties_113 : decode cX5_ties 113 = .ok (.iinc 9 1, 3) := by decide +kernel
theorem dX5_ties_116 : decode cX5_ties 116 = .ok (.goto (-65), 3) := by decide +kernel
theorem dX5_ties_119 : decode cX5_ties 119 = .ok (.return_, 1) := by decide +kernel
theorem dX5_solves_0 : decode cX5_solves 0 = .ok (.iconst 0, 1) := by decide +kernel
theorem dX5_solves_1 : decode cX5_solves 1 = .ok (.istore_n 1, 1) := by decide +kernel
theorem dX5_solves_2 : decode cX5_solves 2 = .ok (.iload_n 1, 1) := by decide +kernel
theorem dX5_solves_3 : decode cX5_solves 3 = .ok (.bipush 34, 2) := by decide +kernel
theorem dX5_solves_5 : decode cX5_solves 5 = .ok (.if_icmp .ge 23, 3) := by decide +kernel
theorem dX5_solves_8 : decode cX5_solves 8 = .ok (.aload_n 0, 1) := by decide +kernel
theorem dX5_solves_9 : decode cX5_solves 9 = .ok (.getfield 38, 3) := by decide +kernel
theorem dX5_solves_12 : decode cX5_solves 12 = .ok (.iload_n 1, 1) := by decide +kernel
theorem dX5_solves_13 : decode cX5_solves 13 = .ok (.iload_n 1, 1) := by decide +kernel
theorem dX5_solves_14 : decode cX5_solves 14 = .ok (.iastore, 1) := by decide +kernel
theorem dX5_solves_15 : decode cX5_solves 15 = .ok (.aload_n 0, 1) := by decide +kernel
theorem dX5_solves_16 : decode cX5_solves 16 = .ok (.getfield 41, 3) := by decide +kernel
theorem dX5_solves_19 : decode cX5_solves 19 = .ok (.iload_n 1, 1) := by decide +kernel
theorem dX5_solves_20 : decode cX5_solves 20 = .ok (.iconst 0, 1) := by decide +kernel
theorem dX5_solves_21 : decode cX5_solves 21 = .ok (.iastore, 1) := by decide +kernel
theorem dX5_solves_22 : decode cX5_solves 22 = .ok (.iinc 1 1, 3) := by decide +kernel
theorem dX5_solves_25 : decode cX5_solves 25 = .ok (.goto (-23), 3) := by decide +kernel
theorem dX5_solves_28 : decode cX5_solves 28 = .ok (.iconst 0, 1) := by decide +kernel
theorem dX5_solves_29 : decode cX5_solves 29 = .ok (.istore_n 1, 1) := by decide +kernel
theorem dX5_solves_30 : decode cX5_solves 30 = .ok (.iload_n 1, 1) := by decide +kernel
theorem dX5_solves_31 : decode cX5_solves 31 = .ok (.aload_n 0, 1) := by decide +kernel
theorem dX5_solves_32 : decode cX5_solves 32 = .ok (.getfield 85, 3) := by decide +kernel
theorem dX5_solves_35 : decode cX5_solves 35 = .ok (.if_icmp .ge 195, 3) := by decide +kernel
theorem dX5_solves_38 : decode cX5_solves 38 = .ok (.aload_n 0, 1) := by decide +kernel
theorem dX5_solves_39 : decode cX5_solves 39 = .ok (.getfield 19, 3) := by decide +kernel
theorem dX5_solves_42 : decode cX5_solves 42 = .ok (.iload_n 1, 1) := by decide +kernel
theorem dX5_solves_43 : decode cX5_solves 43 = .ok (.iaload, 1) := by decide +kernel
theorem dX5_solves_44 : decode cX5_solves 44 = .ok (.istore_n 2, 1) := by decide +kernel
theorem dX5_solves_45 : decode cX5_solves 45 = .ok (.aload_n 0, 1) := by decide +kernel
theorem dX5_solves_46 : decode cX5_solves 46 = .ok (.getfield 16, 3) := by decide +kernel
theorem dX5_solves_49 : decode cX5_solves 49 = .ok (.iload_n 1, 1) := by decide +kernel
theorem dX5_solves_50 : decode cX5_solves 50 = .ok (.iaload, 1) := by decide +kernel
theorem dX5_solves_51 : decode cX5_solves 51 = .ok (.iconst 2, 1) := by decide +kernel
theorem dX5_solves_52 : decode cX5_solves 52 = .ok (.if_icmp .ge 67, 3) := by decide +kernel
theorem dX5_solves_55 : decode cX5_solves 55 = .ok (.aload_n 0, 1) := by decide +kernel
theorem dX5_solves_56 : decode cX5_solves 56 = .ok (.getfield 28, 3) := by decide +kernel
theorem dX5_solves_59 : decode cX5_solves 59 = .ok (.iload_n 1, 1) := by decide +kernel
theorem dX5_solves_60 : decode cX5_solves 60 = .ok (.aload_n 0, 1) := by decide +kernel
theorem dX5_solves_61 : decode cX5_solves 61 = .ok (.aload_n 0, 1) := by decide +kernel
theorem dX5_solves_62 : decode cX5_solves 62 = .ok (.getfield 16, 3) := by decide +kernel
theorem dX5_solves_65 : decode cX5_solves 65 = .ok (.iload_n 1, 1) := by decide +kernel
theorem dX5_solves_66 : decode cX5_solves 66 = .ok (.iaload, 1) := by decide +kernel
theorem dX5_solves_67 : decode cX5_solves 67 = .ok (.iload_n 2, 1) := by decide +kernel
theorem dX5_solves_68 : decode cX5_solves 68 = .ok (.aload_n 0, 1) := by decide +kernel
theorem dX5_solves_69 : decode cX5_solves 69 = .ok (.getfield 22, 3) := by decide +kernel
theorem dX5_solves_72 : decode cX5_solves 72 = .ok (.iload_n 1, 1) := by decide +kernel
theorem dX5_solves_73 : decode cX5_solves 73 = .ok (.iaload, 1) := by decide +kernel
theorem dX5_solves_74 : decode cX5_solves 74 = .ok (.aload_n 0, 1) := by decide +kernel
theorem dX5_solves_75 : decode cX5_solves 75 = .ok (.getfield 25, 3) := by decide +kernel
theorem dX5_solves_78 : decode cX5_solves 78 = .ok (.iload_n 1, 1) := by decide +kernel
theorem dX5_solves_79 : decode cX5_solves 79 = .ok (.iaload, 1) := by decide +kernel
theorem dX5_solves_80 : decode cX5_solves 80 = .ok (.invokevirtual 88, 3) := by decide +kernel
theorem dX5_solves_83 : decode cX5_solves 83 = .ok (.iastore, 1) := by decide +kernel
theorem dX5_solves_84 : decode cX5_solves 84 = .ok (.aload_n 0, 1) := by decide +kernel
theorem dX5_solves_85 : decode cX5_solves 85 = .ok (.getfield 28, 3) := by decide +kernel
theorem dX5_solves_88 : decode cX5_solves 88 = .ok (.iload_n 1, 1) := by decide +kernel
theorem dX5_solves_89 : decode cX5_solves 89 = .ok (.iaload, 1) := by decide +kernel
theorem dX5_solves_90 : decode cX5_solves 90 = .ok (.ifCond .ne 134, 3) := by decide +kernel
theorem dX5_solves_93 : decode cX5_solves 93 = .ok (.aload_n 0, 1) := by decide +kernel
theorem dX5_solves_94 : decode cX5_solves 94 = .ok (.aload_n 0, 1) := by decide +kernel
theorem dX5_solves_95 : decode cX5_solves 95 = .ok (.getfield 16, 3) := by decide +kernel
theorem dX5_solves_98 : decode cX5_solves 98 = .ok (.iload_n 1, 1) := by decide +kernel
theorem dX5_solves_99 : decode cX5_solves 99 = .ok (.iaload, 1) := by decide +kernel
theorem dX5_solves_100 : decode cX5_solves 100 = .ok (.iload_n 2, 1) := by decide +kernel
theorem dX5_solves_101 : decode cX5_solves 101 = .ok (.aload_n 0, 1) := by decide +kernel
theorem dX5_solves_102 : decode cX5_solves 102 = .ok (.getfield 22, 3) := by decide +kernel
theorem dX5_solves_105 : decode cX5_solves 105 = .ok (.iload_n 1, 1) := by decide +kernel
theorem dX5_solves_106 : decode cX5_solves 106 = .ok (.iaload, 1) := by decide +kernel
theorem dX5_solves_107 : decode cX5_solves 107 = .ok (.aload_n 0, 1) := by decide +kernel
theorem dX5_solves_108 : decode cX5_solves 108 = .ok (.getfield 25, 3) := by decide +kernel
theorem dX5_solves_111 : decode cX5_solves 111 = .ok (.iload_n 1, 1) := by decide +kernel
theorem dX5_solves_112 : decode cX5_solves 112 = .ok (.iaload, 1) := by decide +kernel
theorem dX5_solves_113 : decode cX5_solves 113 = .ok (.invokevirtual 92, 3) := by decide +kernel
theorem dX5_solves_116 : decode cX5_solves 116 = .ok (.goto 108, 3) := by decide +kernel
theorem dX5_solves_119 : decode cX5_solves 119 = .ok (.aload_n 0, 1) := by decide +kernel
theorem dX5_solves_120 : decode cX5_solves 120 = .ok (.iconst 0, 1) := by decide +kernel
theorem dX5_solves_121 : decode cX5_solves 121 = .ok (.bipush 16, 2) := by decide +kernel
theorem dX5_solves_123 : decode cX5_solves 123 = .ok (.iload_n 2, 1) := by decide +kernel
theorem dX5_solves_124 : decode cX5_solves 124 = .ok (.aload_n 0, 1) := by decide +kernel
theorem dX5_solves_125 : decode cX5_solves 125 = .ok (.getfield 7, 3) := by decide +kernel
theorem dX5_solves_128 : decode cX5_solves 128 = .ok (.iload_n 2, 1) := by decide +kernel
theorem dX5_solves_129 : decode cX5_solves 129 = .ok (.iaload, 1) := by decide +kernel
theorem dX5_solves_130 : decode cX5_solves 130 = .ok (.invokevirtual 88, 3) := by decide +kernel
theorem dX5_solves_133 : decode cX5_solves 133 = .ok (.istore_n 3, 1) := by decide +kernel
theorem dX5_solves_134 : decode cX5_solves 134 = .ok (.aload_n 0, 1) := by decide +kernel
theorem dX5_solves_135 : decode cX5_solves 135 = .ok (.iconst 1, 1) := by decide +kernel
theorem dX5_solves_136 : decode cX5_solves 136 = .ok (.bipush 16, 2) := by decide +kernel
theorem dX5_solves_138 : decode cX5_solves 138 = .ok (.iload_n 2, 1) := by decide +kernel
theorem dX5_solves_139 : decode cX5_solves 139 = .ok (.aload_n 0, 1) := by decide +kernel
theorem dX5_solves_140 : decode cX5_solves 140 = .ok (.getfield 13, 3) := by decide +kernel
theorem dX5_solves_143 : decode cX5_solves 143 = .ok (.iload_n 2, 1) := by decide +kernel
theorem dX5_solves_144 : decode cX5_solves 144 = .ok (.iaload, 1) := by decide +kernel
theorem dX5_solves_145 : decode cX5_solves 145 = .ok (.invokevirtual 88, 3) := by decide +kernel
theorem dX5_solves_148 : decode cX5_solves 148 = .ok (.istore 4, 2) := by decide +kernel
theorem dX5_solves_150 : decode cX5_solves 150 = .ok (.aload_n 0, 1) := by decide +kernel
theorem dX5_solves_151 : decode cX5_solves 151 = .ok (.getfield 28, 3) := by decide +kernel
theorem dX5_solves_154 : decode cX5_solves 154 = .ok (.iload_n 1, 1) := by decide +kernel
theorem dX5_solves_155 : decode cX5_solves 155 = .ok (.iload_n 3, 1) := by decide +kernel
theorem dX5_solves_156 : decode cX5_solves 156 = .ok (.iconst 2, 1) := by decide +kernel
theorem dX5_solves_157 : decode cX5_solves 157 = .ok (.if_icmp .eq 9, 3) := by decide +kernel
theorem dX5_solves_160 : decode cX5_solves 160 = .ok (.iload 4, 2) := by decide +kernel
theorem dX5_solves_162 : decode cX5_solves 162 = .ok (.iconst 2, 1) := by decide +kernel
theorem dX5_solves_163 : decode cX5_solves 163 = .ok (.if_icmp .ne 7, 3) := by decide +kernel
theorem dX5_solves_166 : decode cX5_solves 166 = .ok (.iconst 2, 1) := by decide +kernel
theorem dX5_solves_167 : decode cX5_solves 167 = .ok (.goto 19, 3) := by decide +kernel
theorem dX5_solves_170 : decode cX5_solves 170 = .ok (.iload_n 3, 1) := by decide +kernel
theorem dX5_solves_171 : decode cX5_solves 171 = .ok (.iconst 1, 1) := by decide +kernel
theorem dX5_solves_172 : decode cX5_solves 172 = .ok (.if_icmp .ne 13, 3) := by decide +kernel
theorem dX5_solves_175 : decode cX5_solves 175 = .ok (.iload 4, 2) := by decide +kernel
theorem dX5_solves_177 : decode cX5_solves 177 = .ok (.iconst 1, 1) := by decide +kernel
theorem dX5_solves_178 : decode cX5_solves 178 = .ok (.if_icmp .ne 7, 3) := by decide +kernel
theorem dX5_solves_181 : decode cX5_solves 181 = .ok (.iconst 1, 1) := by decide +kernel
theorem dX5_solves_182 : decode cX5_solves 182 = .ok (.goto 4, 3) := by decide +kernel
theorem dX5_solves_185 : decode cX5_solves 185 = .ok (.iconst 0, 1) := by decide +kernel
theorem dX5_solves_186 : decode cX5_solves 186 = .ok (.iastore, 1) := by decide +kernel
theorem dX5_solves_187 : decode cX5_solves 187 = .ok (.aload_n 0, 1) := by decide +kernel
theorem dX5_solves_188 : decode cX5_solves 188 = .ok (.getfield 28, 3) := by decide +kernel
theorem dX5_solves_191 : decode cX5_solves 191 = .ok (.iload_n 1, 1) := by decide +kernel
theorem dX5_solves_192 : decode cX5_solves 192 = .ok (.iaload, 1) := by decide +kernel
theorem dX5_solves_193 : decode cX5_solves 193 = .ok (.ifCond .ne 31, 3) := by decide +kernel
theorem dX5_solves_196 : decode cX5_solves 196 = .ok (.aload_n 0, 1) := by decide +kernel
theorem dX5_solves_197 : decode cX5_solves 197 = .ok (.iconst 0, 1) := by decide +kernel
theorem dX5_solves_198 : decode cX5_solves 198 = .ok (.bipush 16, 2) := by decide +kernel
theorem dX5_solves_200 : decode cX5_solves 200 = .ok (.iload_n 2, 1) := by decide +kernel
theorem dX5_solves_201 : decode cX5_solves 201 = .ok (.aload_n 0, 1) := by decide +kernel
theorem dX5_solves_202 : decode cX5_solves 202 = .ok (.getfield 7, 3) := by decide +kernel
theorem dX5_solves_205 : decode cX5_solves 205 = .ok (.iload_n 2, 1) := by decide +kernel
theorem dX5_solves_206 : decode cX5_solves 206 = .ok (.iaload, 1) := by decide +kernel
theorem dX5_solves_207 : decode cX5_solves 207 = .ok (.invokevirtual 92, 3) := by decide +kernel
theorem dX5_solves_210 : decode cX5_solves 210 = .ok (.aload_n 0, 1) := by decide +kernel
theorem dX5_solves_211 : decode cX5_solves 211 = .ok (.iconst 1, 1) := by decide +kernel
theorem dX5_solves_212 : decode cX5_solves 212 = .ok (.bipush 16, 2) := by decide +kernel
theorem dX5_solves_214 : decode cX5_solves 214 = .ok (.iload_n 2, 1) := by decide +kernel
theorem dX5_solves_215 : decode cX5_solves 215 = .ok (.aload_n 0, 1) := by decide +kernel
theorem dX5_solves_216 : decode cX5_solves 216 = .ok (.getfield 13, 3) := by decide +kernel
theorem dX5_solves_219 : decode cX5_solves 219 = .ok (.iload_n 2, 1) := by decide +kernel
theorem dX5_solves_220 : decode cX5_solves 220 = .ok (.iaload, 1) := by decide +kernel
theorem dX5_solves_221 : decode cX5_solves 221 = .ok (.invokevirtual 92, 3) := by decide +kernel
theorem dX5_solves_224 : decode cX5_solves 224 = .ok (.iinc 1 1, 3) := by decide +kernel
theorem dX5_solves_227 : decode cX5_solves 227 = .ok (.goto (-197), 3) := by decide +kernel
theorem dX5_solves_230 : decode cX5_solves 230 = .ok (.return_, 1) := by decide +kernel
theorem dX5_placeOf_0 : decode cX5_placeOf 0 = .ok (.bipush 17, 2) := by decide +kernel
theorem dX5_placeOf_2 : decode cX5_placeOf 2 = .ok (.iload_n 1, 1) := by decide +kernel
theorem dX5_placeOf_3 : decode cX5_placeOf 3 = .ok (.imul, 1) := by decide +kernel
theorem dX5_placeOf_4 : decode cX5_placeOf 4 = .ok (.iload_n 2, 1) := by decide +kernel
theorem dX5_placeOf_5 : decode cX5_placeOf 5 = .ok (.iadd, 1) := by decide +kernel
theorem dX5_placeOf_6 : decode cX5_placeOf 6 = .ok (.istore_n 3, 1) := by decide +kernel
theorem dX5_placeOf_7 : decode cX5_placeOf 7 = .ok (.bipush 17, 2) := by decide +kernel
theorem dX5_placeOf_9 : decode cX5_placeOf 9 = .ok (.iload_n 1, 1) := by decide +kernel
theorem dX5_placeOf_10 : decode cX5_placeOf 10 = .ok (.imul, 1) := by decide +kernel
theorem dX5_placeOf_11 : decode cX5_placeOf 11 = .ok (.bipush 16, 2) := by decide +kernel
theorem dX5_placeOf_13 : decode cX5_placeOf 13 = .ok (.iadd, 1) := by decide +kernel
theorem dX5_placeOf_14 : decode cX5_placeOf 14 = .ok (.istore 4, 2) := by decide +kernel
theorem dX5_placeOf_16 : decode cX5_placeOf 16 = .ok (.aload_n 0, 1) := by decide +kernel
theorem dX5_placeOf_17 : decode cX5_placeOf 17 = .ok (.getfield 38, 3) := by decide +kernel
theorem dX5_placeOf_20 : decode cX5_placeOf 20 = .ok (.iload_n 3, 1) := by decide +kernel
theorem dX5_placeOf_21 : decode cX5_placeOf 21 = .ok (.iaload, 1) := by decide +kernel
theorem dX5_placeOf_22 : decode cX5_placeOf 22 = .ok (.aload_n 0, 1) := by decide +kernel
theorem dX5_placeOf_23 : decode cX5_placeOf 23 = .ok (.getfield 38, 3) := by decide +kernel
theorem dX5_placeOf_26 : decode cX5_placeOf 26 = .ok (.iload 4, 2) := by decide +kernel
theorem dX5_placeOf_28 : decode cX5_placeOf 28 = .ok (.iaload, 1) := by decide +kernel
theorem dX5_placeOf_29 : decode cX5_placeOf 29 = .ok (.if_icmp .ne 18, 3) := by decide +kernel
theorem dX5_placeOf_32 : decode cX5_placeOf 32 = .ok (.aload_n 0, 1) := by decide +kernel
theorem dX5_placeOf_33 : decode cX5_placeOf 33 = .ok (.getfield 41, 3) := by decide +kernel
theorem dX5_placeOf_36 : decode cX5_placeOf 36 = .ok (.iload_n 3, 1) := by decide +kernel
theorem dX5_placeOf_37 : decode cX5_placeOf 37 = .ok (.iaload, 1) := by decide +kernel
theorem dX5_placeOf_38 : decode cX5_placeOf 38 = .ok (.aload_n 0, 1) := by decide +kernel
theorem dX5_placeOf_39 : decode cX5_placeOf 39 = .ok (.getfield 41, 3) := by decide +kernel
theorem dX5_placeOf_42 : decode cX5_placeOf 42 = .ok (.iload 4, 2) := by decide +kernel
theorem dX5_placeOf_44 : decode cX5_placeOf 44 = .ok (.iaload, 1) := by decide +kernel
theorem dX5_placeOf_45 : decode cX5_placeOf 45 = .ok (.isub, 1) := by decide +kernel
theorem dX5_placeOf_46 : decode cX5_placeOf 46 = .ok (.ireturn, 1) := by decide +kernel
theorem dX5_placeOf_47 : decode cX5_placeOf 47 = .ok (.bipush 17, 2) := by decide +kernel
theorem dX5_placeOf_49 : decode cX5_placeOf 49 = .ok (.iload_n 1, 1) := by decide +kernel
theorem dX5_placeOf_50 : decode cX5_placeOf 50 = .ok (.imul, 1) := by decide +kernel
theorem dX5_placeOf_51 : decode cX5_placeOf 51 = .ok (.istore 5, 2) := by decide +kernel
theorem dX5_placeOf_53 : decode cX5_placeOf 53 = .ok (.aload_n 0, 1) := by decide +kernel
theorem dX5_placeOf_54 : decode cX5_placeOf 54 = .ok (.getfield 38, 3) := by decide +kernel
theorem dX5_placeOf_57 : decode cX5_placeOf 57 = .ok (.iload 5, 2) := by decide +kernel
theorem dX5_placeOf_59 : decode cX5_placeOf 59 = .ok (.iaload, 1) := by decide +kernel
theorem dX5_placeOf_60 : decode cX5_placeOf 60 = .ok (.aload_n 0, 1) := by decide +kernel
theorem dX5_placeOf_61 : decode cX5_placeOf 61 = .ok (.getfield 38, 3) := by decide +kernel
theorem dX5_placeOf_64 : decode cX5_placeOf 64 = .ok (.iload_n 3, 1) := by decide +kernel
theorem dX5_placeOf_65 : decode cX5_placeOf 65 = .ok (.iaload, 1) := by decide +kernel
theorem dX5_placeOf_66 : decode cX5_placeOf 66 = .ok (.if_icmp .eq 9, 3) := by decide +kernel
theorem dX5_placeOf_69 : decode cX5_placeOf 69 = .ok (.iinc 5 1, 3) := by decide +kernel
theorem dX5_placeOf_72 : decode cX5_placeOf 72 = .ok (.goto (-19), 3) := by decide +kernel
theorem dX5_placeOf_75 : decode cX5_placeOf 75 = .ok (.iload_n 1, 1) := by decide +kernel
theorem dX5_placeOf_76 : decode cX5_placeOf 76 = .ok (.ifCond .ne 13, 3) := by decide +kernel
theorem dX5_placeOf_79 : decode cX5_placeOf 79 = .ok (.aload_n 0, 1) := by decide +kernel
theorem dX5_placeOf_80 : decode cX5_placeOf 80 = .ok (.getfield 7, 3) := by decide +kernel
theorem dX5_placeOf_83 : decode cX5_placeOf 83 = .ok (.iload 5, 2) := by decide +kernel
theorem dX5_placeOf_85 : decode cX5_placeOf 85 = .ok (.iaload, 1) := by decide +kernel
theorem dX5_placeOf_86 : decode cX5_placeOf 86 = .ok (.goto 13, 3) := by decide +kernel
theorem dX5_placeOf_89 : decode cX5_placeOf 89 = .ok (.aload_n 0, 1) := by decide +kernel
theorem dX5_placeOf_90 : decode cX5_placeOf 90 = .ok (.getfield 13, 3) := by decide +kernel
theorem dX5_placeOf_93 : decode cX5_placeOf 93 = .ok (.iload 5, 2) := by decide +kernel
theorem dX5_placeOf_95 : decode cX5_placeOf 95 = .ok (.bipush 17, 2) := by decide +kernel
theorem dX5_placeOf_97 : decode cX5_placeOf 97 = .ok (.isub, 1) := by decide +kernel
theorem dX5_placeOf_98 : decode cX5_placeOf 98 = .ok (.iaload, 1) := by decide +kernel
theorem dX5_placeOf_99 : decode cX5_placeOf 99 = .ok (.istore 6, 2) := by decide +kernel
theorem dX5_placeOf_101 : decode cX5_placeOf 101 = .ok (.iload 6, 2) := by decide +kernel
theorem dX5_placeOf_103 : decode cX5_placeOf 103 = .ok (.aload_n 0, 1) := by decide +kernel
theorem dX5_placeOf_104 : decode cX5_placeOf 104 = .ok (.getfield 41, 3) := by decide +kernel
theorem dX5_placeOf_107 : decode cX5_placeOf 107 = .ok (.iload_n 3, 1) := by decide +kernel
theorem dX5_placeOf_108 : decode cX5_placeOf 108 = .ok (.iaload, 1) := by decide +kernel
theorem dX5_placeOf_109 : decode cX5_placeOf 109 = .ok (.iadd, 1) := by decide +kernel
theorem dX5_placeOf_110 : decode cX5_placeOf 110 = .ok (.aload_n 0, 1) := by decide +kernel
theorem dX5_placeOf_111 : decode cX5_placeOf 111 = .ok (.getfield 41, 3) := by decide +kernel
theorem dX5_placeOf_114 : decode cX5_placeOf 114 = .ok (.iload 5, 2) := by decide +kernel
theorem dX5_placeOf_116 : decode cX5_placeOf 116 = .ok (.iaload, 1) := by decide +kernel
theorem dX5_placeOf_117 : decode cX5_placeOf 117 = .ok (.isub, 1) := by decide +kernel
theorem dX5_placeOf_118 : decode cX5_placeOf 118 = .ok (.ireturn, 1) := by decide +kernel
theorem dX5_point_0 : decode cX5_point 0 = .ok (.aload_n 0, 1) := by decide +kernel
theorem dX5_point_1 : decode cX5_point 1 = .ok (.iconst 0, 1) := by decide +kernel
theorem dX5_point_2 : decode cX5_point 2 = .ok (.putfield 74, 3) := by decide +kernel
theorem dX5_point_5 : decode cX5_point 5 = .ok (.iload_n 1, 1) := by decide +kernel
theorem dX5_point_6 : decode cX5_point 6 = .ok (.invokestatic 96, 3) := by decide +kernel
theorem dX5_point_9 : decode cX5_point 9 = .ok (.ifCond .eq 10, 3) := by decide +kernel
theorem dX5_point_12 : decode cX5_point 12 = .ok (.iload_n 2, 1) := by decide +kernel
theorem dX5_point_13 : decode cX5_point 13 = .ok (.invokestatic 96, 3) := by decide +kernel
theorem dX5_point_16 : decode cX5_point 16 = .ok (.ifCond .ne 9, 3) := by decide +kernel
theorem dX5_point_19 : decode cX5_point 19 = .ok (.aload_n 0, 1) := by decide +kernel
theorem dX5_point_20 : decode cX5_point 20 = .ok (.iconst 1, 1) := by decide +kernel
theorem dX5_point_21 : decode cX5_point 21 = .ok (.invokevirtual 100, 3) := by decide +kernel
theorem dX5_point_24 : decode cX5_point 24 = .ok (.ireturn, 1) := by decide +kernel
theorem dX5_point_25 : decode cX5_point 25 = .ok (.aload_n 0, 1) := by decide +kernel
theorem dX5_point_26 : decode cX5_point 26 = .ok (.getfield 82, 3) := by decide +kernel
theorem dX5_point_29 : decode cX5_point 29 = .ok (.bipush 16, 2) := by decide +kernel
theorem dX5_point_31 : decode cX5_point 31 = .ok (.if_icmp .ne 9, 3) := by decide +kernel
theorem dX5_point_34 : decode cX5_point 34 = .ok (.aload_n 0, 1) := by decide +kernel
theorem dX5_point_35 : decode cX5_point 35 = .ok (.iconst 2, 1) := by decide +kernel
theorem dX5_point_36 : decode cX5_point 36 = .ok (.invokevirtual 100, 3) := by decide +kernel
theorem dX5_point_39 : decode cX5_point 39 = .ok (.ireturn, 1) := by decide +kernel
theorem dX5_point_40 : decode cX5_point 40 = .ok (.aload_n 0, 1) := by decide +kernel
theorem dX5_point_41 : decode cX5_point 41 = .ok (.getfield 7, 3) := by decide +kernel
theorem dX5_point_44 : decode cX5_point 44 = .ok (.aload_n 0, 1) := by decide +kernel
theorem dX5_point_45 : decode cX5_point 45 = .ok (.getfield 82, 3) := by decide +kernel
theorem dX5_point_48 : decode cX5_point 48 = .ok (.iload_n 1, 1) := by decide +kernel
theorem dX5_point_49 : decode cX5_point 49 = .ok (.iastore, 1) := by decide +kernel
theorem dX5_point_50 : decode cX5_point 50 = .ok (.aload_n 0, 1) := by decide +kernel
theorem dX5_point_51 : decode cX5_point 51 = .ok (.getfield 13, 3) := by decide +kernel
theorem dX5_point_54 : decode cX5_point 54 = .ok (.aload_n 0, 1) := by decide +kernel
theorem dX5_point_55 : decode cX5_point 55 = .ok (.getfield 82, 3) := by decide +kernel
theorem dX5_point_58 : decode cX5_point 58 = .ok (.iload_n 2, 1) := by decide +kernel
theorem dX5_point_59 : decode cX5_point 59 = .ok (.iastore, 1) := by decide +kernel
theorem dX5_point_60 : decode cX5_point 60 = .ok (.aload_n 0, 1) := by decide +kernel
theorem dX5_point_61 : decode cX5_point 61 = .ok (.dup, 1) := by decide +kernel
theorem dX5_point_62 : decode cX5_point 62 = .ok (.getfield 82, 3) := by decide +kernel
theorem dX5_point_65 : decode cX5_point 65 = .ok (.iconst 1, 1) := by decide +kernel
theorem dX5_point_66 : decode cX5_point 66 = .ok (.iadd, 1) := by decide +kernel
theorem dX5_point_67 : decode cX5_point 67 = .ok (.putfield 82, 3) := by decide +kernel
theorem dX5_point_70 : decode cX5_point 70 = .ok (.aload_n 0, 1) := by decide +kernel
theorem dX5_point_71 : decode cX5_point 71 = .ok (.getfield 82, 3) := by decide +kernel
theorem dX5_point_74 : decode cX5_point 74 = .ok (.iconst 1, 1) := by decide +kernel
theorem dX5_point_75 : decode cX5_point 75 = .ok (.isub, 1) := by decide +kernel
theorem dX5_point_76 : decode cX5_point 76 = .ok (.ireturn, 1) := by decide +kernel
theorem dX5_hint_0 : decode cX5_hint 0 = .ok (.aload_n 0, 1) := by decide +kernel
theorem dX5_hint_1 : decode cX5_hint 1 = .ok (.aload_n 0, 1) := by decide +kernel
theorem dX5_hint_2 : decode cX5_hint 2 = .ok (.iload_n 1, 1) := by decide +kernel
theorem dX5_hint_3 : decode cX5_hint 3 = .ok (.invokevirtual 104, 3) := by decide +kernel
theorem dX5_hint_6 : decode cX5_hint 6 = .ok (.ifCond .ne 7, 3) := by decide +kernel
theorem dX5_hint_9 : decode cX5_hint 9 = .ok (.iconst 1, 1) := by decide +kernel
theorem dX5_hint_10 : decode cX5_hint 10 = .ok (.goto 22, 3) := by decide +kernel
theorem dX5_hint_13 : decode cX5_hint 13 = .ok (.iload_n 2, 1) := by decide +kernel
theorem dX5_hint_14 : decode cX5_hint 14 = .ok (.invokestatic 96, 3) := by decide +kernel
theorem dX5_hint_17 : decode cX5_hint 17 = .ok (.ifCond .eq 14, 3) := by decide +kernel
theorem dX5_hint_20 : decode cX5_hint 20 = .ok (.iload_n 3, 1) := by decide +kernel
theorem dX5_hint_21 : decode cX5_hint 21 = .ok (.invokestatic 96, 3) := by decide +kernel
theorem dX5_hint_24 : decode cX5_hint 24 = .ok (.ifCond .eq 7, 3) := by decide +kernel
theorem dX5_hint_27 : decode cX5_hint 27 = .ok (.iconst 0, 1) := by decide +kernel
theorem dX5_hint_28 : decode cX5_hint 28 = .ok (.goto 4, 3) := by decide +kernel
theorem dX5_hint_31 : decode cX5_hint 31 = .ok (.iconst 2, 1) := by decide +kernel
theorem dX5_hint_32 : decode cX5_hint 32 = .ok (.putfield 74, 3) := by decide +kernel
theorem dX5_hint_35 : decode cX5_hint 35 = .ok (.aload_n 0, 1) := by decide +kernel
theorem dX5_hint_36 : decode cX5_hint 36 = .ok (.getfield 74, 3) := by decide +kernel
theorem dX5_hint_39 : decode cX5_hint 39 = .ok (.ifCond .ne 17, 3) := by decide +kernel
theorem dX5_hint_42 : decode cX5_hint 42 = .ok (.aload_n 0, 1) := by decide +kernel
theorem dX5_hint_43 : decode cX5_hint 43 = .ok (.getfield 7, 3) := by decide +kernel
theorem dX5_hint_46 : decode cX5_hint 46 = .ok (.iload_n 1, 1) := by decide +kernel
theorem dX5_hint_47 : decode cX5_hint 47 = .ok (.iload_n 2, 1) := by decide +kernel
theorem dX5_hint_48 : decode cX5_hint 48 = .ok (.iastore, 1) := by decide +kernel
theorem dX5_hint_49 : decode cX5_hint 49 = .ok (.aload_n 0, 1) := by decide +kernel
theorem dX5_hint_50 : decode cX5_hint 50 = .ok (.getfield 13, 3) := by decide +kernel
theorem dX5_hint_53 : decode cX5_hint 53 = .ok (.iload_n 1, 1) := by decide +kernel
theorem dX5_hint_54 : decode cX5_hint 54 = .ok (.iload_n 3, 1) := by decide +kernel
theorem dX5_hint_55 : decode cX5_hint 55 = .ok (.iastore, 1) := by decide +kernel
theorem dX5_hint_56 : decode cX5_hint 56 = .ok (.return_, 1) := by decide +kernel
theorem dX5_wish_0 : decode cX5_wish 0 = .ok (.aload_n 0, 1) := by decide +kernel
theorem dX5_wish_1 : decode cX5_wish 1 = .ok (.iconst 0, 1) := by decide +kernel
theorem dX5_wish_2 : decode cX5_wish 2 = .ok (.putfield 74, 3) := by decide +kernel
theorem dX5_wish_5 : decode cX5_wish 5 = .ok (.iload_n 1, 1) := by decide +kernel
theorem dX5_wish_6 : decode cX5_wish 6 = .ok (.iconst 0, 1) := by decide +kernel
theorem dX5_wish_7 : decode cX5_wish 7 = .ok (.iconst 2, 1) := by decide +kernel
theorem dX5_wish_8 : decode cX5_wish 8 = .ok (.invokestatic 78, 3) := by decide +kernel
theorem dX5_wish_11 : decode cX5_wish 11 = .ok (.ifCond .eq 21, 3) := by decide +kernel
theorem dX5_wish_14 : decode cX5_wish 14 = .ok (.iload_n 1, 1) := by decide +kernel
theorem dX5_wish_15 : decode cX5_wish 15 = .ok (.iconst 2, 1) := by decide +kernel
theorem dX5_wish_16 : decode cX5_wish 16 = .ok (.if_icmp .ge 22, 3) := by decide +kernel
theorem dX5_wish_19 : decode cX5_wish 19 = .ok (.iload 4, 2) := by decide +kernel
theorem dX5_wish_21 : decode cX5_wish 21 = .ok (.invokestatic 96, 3) := by decide +kernel
theorem dX5_wish_24 : decode cX5_wish 24 = .ok (.ifCond .eq 8, 3) := by decide +kernel
theorem dX5_wish_27 : decode cX5_wish 27 = .ok (.iload_n 2, 1) := by decide +kernel
theorem dX5_wish_28 : decode cX5_wish 28 = .ok (.iload_n 3, 1) := by decide +kernel
theorem dX5_wish_29 : decode cX5_wish 29 = .ok (.if_icmp .ne 9, 3) := by decide +kernel
theorem dX5_wish_32 : decode cX5_wish 32 = .ok (.aload_n 0, 1) := by decide +kernel
theorem dX5_wish_33 : decode cX5_wish 33 = .ok (.iconst 1, 1) := by decide +kernel
theorem dX5_wish_34 : decode cX5_wish 34 = .ok (.invokevirtual 100, 3) := by decide +kernel
theorem dX5_wish_37 : decode cX5_wish 37 = .ok (.ireturn, 1) := by decide +kernel
theorem dX5_wish_38 : decode cX5_wish 38 = .ok (.aload_n 0, 1) := by decide +kernel
theorem dX5_wish_39 : decode cX5_wish 39 = .ok (.iload_n 2, 1) := by decide +kernel
theorem dX5_wish_40 : decode cX5_wish 40 = .ok (.invokevirtual 104, 3) := by decide +kernel
theorem dX5_wish_43 : decode cX5_wish 43 = .ok (.ifCond .eq 16, 3) := by decide +kernel
theorem dX5_wish_46 : decode cX5_wish 46 = .ok (.iload_n 1, 1) := by decide +kernel
theorem dX5_wish_47 : decode cX5_wish 47 = .ok (.iconst 2, 1) := by decide +kernel
theorem dX5_wish_48 : decode cX5_wish 48 = .ok (.if_icmp .ge 17, 3) := by decide +kernel
theorem dX5_wish_51 : decode cX5_wish 51 = .ok (.aload_n 0, 1) := by decide +kernel
theorem dX5_wish_52 : decode cX5_wish 52 = .ok (.iload_n 3, 1) := by decide +kernel
theorem dX5_wish_53 : decode cX5_wish 53 = .ok (.invokevirtual 104, 3) := by decide +kernel
theorem dX5_wish_56 : decode cX5_wish 56 = .ok (.ifCond .ne 9, 3) := by decide +kernel
theorem dX5_wish_59 : decode cX5_wish 59 = .ok (.aload_n 0, 1) := by decide +kernel
theorem dX5_wish_60 : decode cX5_wish 60 = .ok (.iconst 2, 1) := by decide +kernel
theorem dX5_wish_61 : decode cX5_wish 61 = .ok (.invokevirtual 100, 3) := by decide +kernel
theorem dX5_wish_64 : decode cX5_wish 64 = .ok (.ireturn, 1) := by decide +kernel
theorem dX5_wish_65 : decode cX5_wish 65 = .ok (.aload_n 0, 1) := by decide +kernel
theorem dX5_wish_66 : decode cX5_wish 66 = .ok (.getfield 85, 3) := by decide +kernel
theorem dX5_wish_69 : decode cX5_wish 69 = .ok (.bipush 40, 2) := by decide +kernel
theorem dX5_wish_71 : decode cX5_wish 71 = .ok (.if_icmp .ne 9, 3) := by decide +kernel
theorem dX5_wish_74 : decode cX5_wish 74 = .ok (.aload_n 0, 1) := by decide +kernel
theorem dX5_wish_75 : decode cX5_wish 75 = .ok (.iconst 3, 1) := by decide +kernel
theorem dX5_wish_76 : decode cX5_wish 76 = .ok (.invokevirtual 100, 3) := by decide +kernel
theorem dX5_wish_79 : decode cX5_wish 79 = .ok (.ireturn, 1) := by decide +kernel
theorem dX5_wish_80 : decode cX5_wish 80 = .ok (.aload_n 0, 1) := by decide +kernel
theorem dX5_wish_81 : decode cX5_wish 81 = .ok (.getfield 16, 3) := by decide +kernel
theorem dX5_wish_84 : decode cX5_wish 84 = .ok (.aload_n 0, 1) := by decide +kernel
theorem dX5_wish_85 : decode cX5_wish 85 = .ok (.getfield 85, 3) := by decide +kernel
theorem dX5_wish_88 : decode cX5_wish 88 = .ok (.iload_n 1, 1) := by decide +kernel
theorem dX5_wish_89 : decode cX5_wish 89 = .ok (.iastore, 1) := by decide +kernel
theorem dX5_wish_90 : decode cX5_wish 90 = .ok (.aload_n 0, 1) := by decide +kernel
theorem dX5_wish_91 : decode cX5_wish 91 = .ok (.getfield 19, 3) := by decide +kernel
theorem dX5_wish_94 : decode cX5_wish 94 = .ok (.aload_n 0, 1) := by decide +kernel
theorem dX5_wish_95 : decode cX5_wish 95 = .ok (.getfield 85, 3) := by decide +kernel
theorem dX5_wish_98 : decode cX5_wish 98 = .ok (.iload_n 2, 1) := by decide +kernel
theorem dX5_wish_99 : decode cX5_wish 99 = .ok (.iastore, 1) := by decide +kernel
theorem dX5_wish_100 : decode cX5_wish 100 = .ok (.aload_n 0, 1) := by decide +kernel
theorem dX5_wish_101 : decode cX5_wish 101 = .ok (.getfield 22, 3) := by decide +kernel
theorem dX5_wish_104 : decode cX5_wish 104 = .ok (.aload_n 0, 1) := by decide +kernel
theorem dX5_wish_105 : decode cX5_wish 105 = .ok (.getfield 85, 3) := by decide +kernel
theorem dX5_wish_108 : decode cX5_wish 108 = .ok (.iload_n 3, 1) := by decide +kernel
theorem dX5_wish_109 : decode cX5_wish 109 = .ok (.iastore, 1) := by decide +kernel
theorem dX5_wish_110 : decode cX5_wish 110 = .ok (.aload_n 0, 1) := by decide +kernel
theorem dX5_wish_111 : decode cX5_wish 111 = .ok (.getfield 25, 3) := by decide +kernel
theorem dX5_wish_114 : decode cX5_wish 114 = .ok (.aload_n 0, 1) := by decide +kernel
theorem dX5_wish_115 : decode cX5_wish 115 = .ok (.getfield 85, 3) := by decide +kernel
theorem dX5_wish_118 : decode cX5_wish 118 = .ok (.iload 4, 2) := by decide +kernel
theorem dX5_wish_120 : decode cX5_wish 120 = .ok (.iastore, 1) := by decide +kernel
theorem dX5_wish_121 : decode cX5_wish 121 = .ok (.iconst 0, 1) := by decide +kernel
theorem dX5_wish_122 : decode cX5_wish 122 = .ok (.istore 5, 2) := by decide +kernel
theorem dX5_wish_124 : decode cX5_wish 124 = .ok (.iload 5, 2) := by decide +kernel
theorem dX5_wish_126 : decode cX5_wish 126 = .ok (.iconst 4, 1) := by decide +kernel
theorem dX5_wish_127 : decode cX5_wish 127 = .ok (.if_icmp .ge 25, 3) := by decide +kernel
theorem dX5_wish_130 : decode cX5_wish 130 = .ok (.aload_n 0, 1) := by decide +kernel
theorem dX5_wish_131 : decode cX5_wish 131 = .ok (.getfield 34, 3) := by decide +kernel
theorem dX5_wish_134 : decode cX5_wish 134 = .ok (.bipush 40, 2) := by decide +kernel
theorem dX5_wish_136 : decode cX5_wish 136 = .ok (.iload 5, 2) := by decide +kernel
theorem dX5_wish_138 : decode cX5_wish 138 = .ok (.imul, 1) := by decide +kernel
theorem dX5_wish_139 : decode cX5_wish 139 = .ok (.aload_n 0, 1) := by decide +kernel
theorem dX5_wish_140 : decode cX5_wish 140 = .ok (.getfield 85, 3) := by decide +kernel
theorem dX5_wish_143 : decode cX5_wish 143 = .ok (.iadd, 1) := by decide +kernel
theorem dX5_wish_144 : decode cX5_wish 144 = .ok (.iconst 0, 1) := by decide +kernel
theorem dX5_wish_145 : decode cX5_wish 145 = .ok (.bastore, 1) := by decide +kernel
theorem dX5_wish_146 : decode cX5_wish 146 = .ok (.iinc 5 1, 3) := by decide +kernel
theorem dX5_wish_149 : decode cX5_wish 149 = .ok (.goto (-25), 3) := by decide +kernel
theorem dX5_wish_152 : decode cX5_wish 152 = .ok (.aload_n 0, 1) := by decide +kernel
theorem dX5_wish_153 : decode cX5_wish 153 = .ok (.dup, 1) := by decide +kernel
theorem dX5_wish_154 : decode cX5_wish 154 = .ok (.getfield 85, 3) := by decide +kernel
theorem dX5_wish_157 : decode cX5_wish 157 = .ok (.iconst 1, 1) := by decide +kernel
theorem dX5_wish_158 : decode cX5_wish 158 = .ok (.iadd, 1) := by decide +kernel
theorem dX5_wish_159 : decode cX5_wish 159 = .ok (.putfield 85, 3) := by decide +kernel
theorem dX5_wish_162 : decode cX5_wish 162 = .ok (.aload_n 0, 1) := by decide +kernel
theorem dX5_wish_163 : decode cX5_wish 163 = .ok (.getfield 85, 3) := by decide +kernel
theorem dX5_wish_166 : decode cX5_wish 166 = .ok (.iconst 1, 1) := by decide +kernel
theorem dX5_wish_167 : decode cX5_wish 167 = .ok (.isub, 1) := by decide +kernel
theorem dX5_wish_168 : decode cX5_wish 168 = .ok (.ireturn, 1) := by decide +kernel
theorem dX5_remove_0 : decode cX5_remove 0 = .ok (.aload_n 0, 1) := by decide +kernel
theorem dX5_remove_1 : decode cX5_remove 1 = .ok (.iconst 0, 1) := by decide +kernel
theorem dX5_remove_2 : decode cX5_remove 2 = .ok (.putfield 74, 3) := by decide +kernel
theorem dX5_remove_5 : decode cX5_remove 5 = .ok (.aload_n 0, 1) := by decide +kernel
theorem dX5_remove_6 : decode cX5_remove 6 = .ok (.iload_n 1, 1) := by decide +kernel
theorem dX5_remove_7 : decode cX5_remove 7 = .ok (.invokevirtual 107, 3) := by decide +kernel
theorem dX5_remove_10 : decode cX5_remove 10 = .ok (.ifCond .ne 9, 3) := by decide +kernel
theorem dX5_remove_13 : decode cX5_remove 13 = .ok (.aload_n 0, 1) := by decide +kernel
theorem dX5_remove_14 : decode cX5_remove 14 = .ok (.iconst 1, 1) := by decide +kernel
theorem dX5_remove_15 : decode cX5_remove 15 = .ok (.invokevirtual 100, 3) := by decide +kernel
theorem dX5_remove_18 : decode cX5_remove 18 = .ok (.ireturn, 1) := by decide +kernel
theorem dX5_remove_19 : decode cX5_remove 19 = .ok (.aload_n 0, 1) := by decide +kernel
theorem dX5_remove_20 : decode cX5_remove 20 = .ok (.invokevirtual 110, 3) := by decide +kernel
theorem dX5_remove_23 : decode cX5_remove 23 = .ok (.aload_n 0, 1) := by decide +kernel
theorem dX5_remove_24 : decode cX5_remove 24 = .ok (.getfield 28, 3) := by decide +kernel
theorem dX5_remove_27 : decode cX5_remove 27 = .ok (.iload_n 1, 1) := by decide +kernel
theorem dX5_remove_28 : decode cX5_remove 28 = .ok (.iaload, 1) := by decide +kernel
theorem dX5_remove_29 : decode cX5_remove 29 = .ok (.istore_n 2, 1) := by decide +kernel
theorem dX5_remove_30 : decode cX5_remove 30 = .ok (.iload_n 1, 1) := by decide +kernel
theorem dX5_remove_31 : decode cX5_remove 31 = .ok (.istore_n 3, 1) := by decide +kernel
theorem dX5_remove_32 : decode cX5_remove 32 = .ok (.iload_n 3, 1) := by decide +kernel
theorem dX5_remove_33 : decode cX5_remove 33 = .ok (.aload_n 0, 1) := by decide +kernel
theorem dX5_remove_34 : decode cX5_remove 34 = .ok (.getfield 85, 3) := by decide +kernel
theorem dX5_remove_37 : decode cX5_remove 37 = .ok (.iconst 1, 1) := by decide +kernel
theorem dX5_remove_38 : decode cX5_remove 38 = .ok (.isub, 1) := by decide +kernel
theorem dX5_remove_39 : decode cX5_remove 39 = .ok (.if_icmp .ge 114, 3) := by decide +kernel
theorem dX5_remove_42 : decode cX5_remove 42 = .ok (.aload_n 0, 1) := by decide +kernel
theorem dX5_remove_43 : decode cX5_remove 43 = .ok (.getfield 16, 3) := by decide +kernel
theorem dX5_remove_46 : decode cX5_remove 46 = .ok (.iload_n 3, 1) := by decide +kernel
theorem dX5_remove_47 : decode cX5_remove 47 = .ok (.aload_n 0, 1) := by decide +kernel
theorem dX5_remove_48 : decode cX5_remove 48 = .ok (.getfield 16, 3) := by decide +kernel
theorem dX5_remove_51 : decode cX5_remove 51 = .ok (.iload_n 3, 1) := by decide +kernel
theorem dX5_remove_52 : decode cX5_remove 52 = .ok (.iconst 1, 1) := by decide +kernel
theorem dX5_remove_53 : decode cX5_remove 53 = .ok (.iadd, 1) := by decide +kernel
theorem dX5_remove_54 : decode cX5_remove 54 = .ok (.iaload, 1) := by decide +kernel
theorem dX5_remove_55 : decode cX5_remove 55 = .ok (.iastore, 1) := by decide +kernel
theorem dX5_remove_56 : decode cX5_remove 56 = .ok (.aload_n 0, 1) := by decide +kernel
theorem dX5_remove_57 : decode cX5_remove 57 = .ok (.getfield 19, 3) := by decide +kernel
theorem dX5_remove_60 : decode cX5_remove 60 = .ok (.iload_n 3, 1) := by decide +kernel
theorem dX5_remove_61 : decode cX5_remove 61 = .ok (.aload_n 0, 1) := by decide +kernel
theorem dX5_remove_62 : decode cX5_remove 62 = .ok (.getfield 19, 3) := by decide +kernel
theorem dX5_remove_65 : decode cX5_remove 65 = .ok (.iload_n 3, 1) := by decide +kernel
theorem dX5_remove_66 : decode cX5_remove 66 = .ok (.iconst 1, 1) := by decide +kernel
theorem dX5_remove_67 : decode cX5_remove 67 = .ok (.iadd, 1) := by decide +kernel
theorem dX5_remove_68 : decode cX5_remove 68 = .ok (.iaload, 1) := by decide +kernel
theorem dX5_remove_69 : decode cX5_remove 69 = .ok (.iastore, 1) := by decide +kernel
theorem dX5_remove_70 : decode cX5_remove 70 = .ok (.aload_n 0, 1) := by decide +kernel
theorem dX5_remove_71 : decode cX5_remove 71 = .ok (.getfield 22, 3) := by decide +kernel
theorem dX5_remove_74 : decode cX5_remove 74 = .ok (.iload_n 3, 1) := by decide +kernel
theorem dX5_remove_75 : decode cX5_remove 75 = .ok (.aload_n 0, 1) := by decide +kernel
theorem dX5_remove_76 : decode cX5_remove 76 = .ok (.getfield 22, 3) := by decide +kernel
theorem dX5_remove_79 : decode cX5_remove 79 = .ok (.iload_n 3, 1) := by decide +kernel
theorem dX5_remove_80 : decode cX5_remove 80 = .ok (.iconst 1, 1) := by decide +kernel
theorem dX5_remove_81 : decode cX5_remove 81 = .ok (.iadd, 1) := by decide +kernel
theorem dX5_remove_82 : decode cX5_remove 82 = .ok (.iaload, 1) := by decide +kernel
theorem dX5_remove_83 : decode cX5_remove 83 = .ok (.iastore, 1) := by decide +kernel
theorem dX5_remove_84 : decode cX5_remove 84 = .ok (.aload_n 0, 1) := by decide +kernel
theorem dX5_remove_85 : decode cX5_remove 85 = .ok (.getfield 25, 3) := by decide +kernel
theorem dX5_remove_88 : decode cX5_remove 88 = .ok (.iload_n 3, 1) := by decide +kernel
theorem dX5_remove_89 : decode cX5_remove 89 = .ok (.aload_n 0, 1) := by decide +kernel
theorem dX5_remove_90 : decode cX5_remove 90 = .ok (.getfield 25, 3) := by decide +kernel
theorem dX5_remove_93 : decode cX5_remove 93 = .ok (.iload_n 3, 1) := by decide +kernel
theorem dX5_remove_94 : decode cX5_remove 94 = .ok (.iconst 1, 1) := by decide +kernel
theorem dX5_remove_95 : decode cX5_remove 95 = .ok (.iadd, 1) := by decide +kernel
theorem dX5_remove_96 : decode cX5_remove 96 = .ok (.iaload, 1) := by decide +kernel
theorem dX5_remove_97 : decode cX5_remove 97 = .ok (.iastore, 1) := by decide +kernel
theorem dX5_remove_98 : decode cX5_remove 98 = .ok (.iload_n 3, 1) := by decide +kernel
theorem dX5_remove_99 : decode cX5_remove 99 = .ok (.istore 4, 2) := by decide +kernel
theorem dX5_remove_101 : decode cX5_remove 101 = .ok (.iload 4, 2) := by decide +kernel
theorem dX5_remove_103 : decode cX5_remove 103 = .ok (.sipush 160, 3) := by decide +kernel
theorem dX5_remove_106 : decode cX5_remove 106 = .ok (.if_icmp .ge 41, 3) := by decide +kernel
theorem dX5_remove_109 : decode cX5_remove 109 = .ok (.aload_n 0, 1) := by decide +kernel
theorem dX5_remove_110 : decode cX5_remove 110 = .ok (.getfield 31, 3) := by decide +kernel
theorem dX5_remove_113 : decode cX5_remove 113 = .ok (.iload 4, 2) := by decide +kernel
theorem dX5_remove_115 : decode cX5_remove 115 = .ok (.aload_n 0, 1) := by decide +kernel
theorem dX5_remove_116 : decode cX5_remove 116 = .ok (.getfield 31, 3) := by decide +kernel
theorem dX5_remove_119 : decode cX5_remove 119 = .ok (.iload 4, 2) := by decide +kernel
theorem dX5_remove_121 : decode cX5_remove 121 = .ok (.iconst 1, 1) := by decide +kernel
theorem dX5_remove_122 : decode cX5_remove 122 = .ok (.iadd, 1) := by decide +kernel
theorem dX5_remove_123 : decode cX5_remove 123 = .ok (.iaload, 1) := by decide +kernel
theorem dX5_remove_124 : decode cX5_remove 124 = .ok (.iastore, 1) := by decide +kernel
theorem dX5_remove_125 : decode cX5_remove 125 = .ok (.aload_n 0, 1) := by decide +kernel
theorem dX5_remove_126 : decode cX5_remove 126 = .ok (.getfield 34, 3) := by decide +kernel
theorem dX5_remove_129 : decode cX5_remove 129 = .ok (.iload 4, 2) := by decide +kernel
theorem dX5_remove_131 : decode cX5_remove 131 = .ok (.aload_n 0, 1) := by decide +kernel
theorem dX5_remove_132 : decode cX5_remove 132 = .ok (.getfield 34, 3) := by decide +kernel
theorem dX5_remove_135 : decode cX5_remove 135 = .ok (.iload 4, 2) := by decide +kernel
theorem dX5_remove_137 : decode cX5_remove 137 = .ok (.iconst 1, 1) := by decide +kernel
theorem dX5_remove_138 : decode cX5_remove 138 = .ok (.iadd, 1) := by decide +kernel
theorem dX5_remove_139 : decode cX5_remove 139 = .ok (.baload, 1) := by decide +kernel
theorem dX5_remove_140 : decode cX5_remove 140 = .ok (.bastore, 1) := by decide +kernel
theorem dX5_remove_141 : decode cX5_remove 141 = .ok (.iinc 4 40, 3) := by decide +kernel
theorem dX5_remove_144 : decode cX5_remove 144 = .ok (.goto (-43), 3) := by decide +kernel
theorem dX5_remove_147 : decode cX5_remove 147 = .ok (.iinc 3 1, 3) := by decide +kernel
theorem dX5_remove_150 : decode cX5_remove 150 = .ok (.goto (-118), 3) := by decide +kernel
theorem dX5_remove_153 : decode cX5_remove 153 = .ok (.aload_n 0, 1) := by decide +kernel
theorem dX5_remove_154 : decode cX5_remove 154 = .ok (.dup, 1) := by decide +kernel
theorem dX5_remove_155 : decode cX5_remove 155 = .ok (.getfield 85, 3) := by decide +kernel
theorem dX5_remove_158 : decode cX5_remove 158 = .ok (.iconst 1, 1) := by decide +kernel
theorem dX5_remove_159 : decode cX5_remove 159 = .ok (.isub, 1) := by decide +kernel
theorem dX5_remove_160 : decode cX5_remove 160 = .ok (.putfield 85, 3) := by decide +kernel
theorem dX5_remove_163 : decode cX5_remove 163 = .ok (.iload_n 2, 1) := by decide +kernel
theorem dX5_remove_164 : decode cX5_remove 164 = .ok (.ireturn, 1) := by decide +kernel
theorem dX5_type_0 : decode cX5_type 0 = .ok (.aload_n 0, 1) := by decide +kernel
theorem dX5_type_1 : decode cX5_type 1 = .ok (.iconst 0, 1) := by decide +kernel
theorem dX5_type_2 : decode cX5_type 2 = .ok (.putfield 74, 3) := by decide +kernel
theorem dX5_type_5 : decode cX5_type 5 = .ok (.aload_n 0, 1) := by decide +kernel
theorem dX5_type_6 : decode cX5_type 6 = .ok (.iload_n 1, 1) := by decide +kernel
theorem dX5_type_7 : decode cX5_type 7 = .ok (.invokevirtual 107, 3) := by decide +kernel
theorem dX5_type_10 : decode cX5_type 10 = .ok (.ifCond .ne 9, 3) := by decide +kernel
theorem dX5_type_13 : decode cX5_type 13 = .ok (.aload_n 0, 1) := by decide +kernel
theorem dX5_type_14 : decode cX5_type 14 = .ok (.iconst 1, 1) := by decide +kernel
theorem dX5_type_15 : decode cX5_type 15 = .ok (.invokevirtual 100, 3) := by decide +kernel
theorem dX5_type_18 : decode cX5_type 18 = .ok (.ireturn, 1) := by decide +kernel
theorem dX5_type_19 : decode cX5_type 19 = .ok (.aload_n 0, 1) := by decide +kernel
theorem dX5_type_20 : decode cX5_type 20 = .ok (.getfield 16, 3) := by decide +kernel
theorem dX5_type_23 : decode cX5_type 23 = .ok (.iload_n 1, 1) := by decide +kernel
theorem dX5_type_24 : decode cX5_type 24 = .ok (.iaload, 1) := by decide +kernel
theorem dX5_type_25 : decode cX5_type 25 = .ok (.iconst 2, 1) := by decide +kernel
theorem dX5_type_26 : decode cX5_type 26 = .ok (.if_icmp .ne 9, 3) := by decide +kernel
theorem dX5_type_29 : decode cX5_type 29 = .ok (.aload_n 0, 1) := by decide +kernel
theorem dX5_type_30 : decode cX5_type 30 = .ok (.iconst 2, 1) := by decide +kernel
theorem dX5_type_31 : decode cX5_type 31 = .ok (.invokevirtual 100, 3) := by decide +kernel
theorem dX5_type_34 : decode cX5_type 34 = .ok (.ireturn, 1) := by decide +kernel
theorem dX5_type_35 : decode cX5_type 35 = .ok (.iload_n 2, 1) := by decide +kernel
theorem dX5_type_36 : decode cX5_type 36 = .ok (.invokestatic 96, 3) := by decide +kernel
theorem dX5_type_39 : decode cX5_type 39 = .ok (.ifCond .ne 9, 3) := by decide +kernel
theorem dX5_type_42 : decode cX5_type 42 = .ok (.aload_n 0, 1) := by decide +kernel
theorem dX5_type_43 : decode cX5_type 43 = .ok (.iconst 3, 1) := by decide +kernel
theorem dX5_type_44 : decode cX5_type 44 = .ok (.invokevirtual 100, 3) := by decide +kernel
theorem dX5_type_47 : decode cX5_type 47 = .ok (.ireturn, 1) := by decide +kernel
theorem dX5_type_48 : decode cX5_type 48 = .ok (.aload_n 0, 1) := by decide +kernel
theorem dX5_type_49 : decode cX5_type 49 = .ok (.getfield 25, 3) := by decide +kernel
theorem dX5_type_52 : decode cX5_type 52 = .ok (.iload_n 1, 1) := by decide +kernel
theorem dX5_type_53 : decode cX5_type 53 = .ok (.iaload, 1) := by decide +kernel
theorem dX5_type_54 : decode cX5_type 54 = .ok (.istore_n 3, 1) := by decide +kernel
theorem dX5_type_55 : decode cX5_type 55 = .ok (.aload_n 0, 1) := by decide +kernel
theorem dX5_type_56 : decode cX5_type 56 = .ok (.getfield 25, 3) := by decide +kernel
theorem dX5_type_59 : decode cX5_type 59 = .ok (.iload_n 1, 1) := by decide +kernel
theorem dX5_type_60 : decode cX5_type 60 = .ok (.iload_n 2, 1) := by decide +kernel
theorem dX5_type_61 : decode cX5_type 61 = .ok (.iastore, 1) := by decide +kernel
theorem dX5_type_62 : decode cX5_type 62 = .ok (.iload_n 3, 1) := by decide +kernel
theorem dX5_type_63 : decode cX5_type 63 = .ok (.ireturn, 1) := by decide +kernel
theorem dX5_state_0 : decode cX5_state 0 = .ok (.aload_n 0, 1) := by decide +kernel
theorem dX5_state_1 : decode cX5_state 1 = .ok (.iconst 0, 1) := by decide +kernel
theorem dX5_state_2 : decode cX5_state 2 = .ok (.putfield 74, 3) := by decide +kernel
theorem dX5_state_5 : decode cX5_state 5 = .ok (.aload_n 0, 1) := by decide +kernel
theorem dX5_state_6 : decode cX5_state 6 = .ok (.iload_n 1, 1) := by decide +kernel
theorem dX5_state_7 : decode cX5_state 7 = .ok (.invokevirtual 107, 3) := by decide +kernel
theorem dX5_state_10 : decode cX5_state 10 = .ok (.ifCond .ne 9, 3) := by decide +kernel
theorem dX5_state_13 : decode cX5_state 13 = .ok (.aload_n 0, 1) := by decide +kernel
theorem dX5_state_14 : decode cX5_state 14 = .ok (.iconst 1, 1) := by decide +kernel
theorem dX5_state_15 : decode cX5_state 15 = .ok (.invokevirtual 100, 3) := by decide +kernel
theorem dX5_state_18 : decode cX5_state 18 = .ok (.ireturn, 1) := by decide +kernel
theorem dX5_state_19 : decode cX5_state 19 = .ok (.aload_n 0, 1) := by decide +kernel
theorem dX5_state_20 : decode cX5_state 20 = .ok (.invokevirtual 110, 3) := by decide +kernel
theorem dX5_state_23 : decode cX5_state 23 = .ok (.aload_n 0, 1) := by decide +kernel
theorem dX5_state_24 : decode cX5_state 24 = .ok (.getfield 28, 3) := by decide +kernel
theorem dX5_state_27 : decode cX5_state 27 = .ok (.iload_n 1, 1) := by decide +kernel
theorem dX5_state_28 : decode cX5_state 28 = .ok (.iaload, 1) := by decide +kernel
theorem dX5_state_29 : decode cX5_state 29 = .ok (.ireturn, 1) := by decide +kernel
theorem dX5_wishes_0 : decode cX5_wishes 0 = .ok (.aload_n 0, 1) := by decide +kernel
theorem dX5_wishes_1 : decode cX5_wishes 1 = .ok (.iconst 0, 1) := by decide +kernel
theorem dX5_wishes_2 : decode cX5_wishes 2 = .ok (.putfield 74, 3) := by decide +kernel
theorem dX5_wishes_5 : decode cX5_wishes 5 = .ok (.aload_n 0, 1) := by decide +kernel
theorem dX5_wishes_6 : decode cX5_wishes 6 = .ok (.getfield 85, 3) := by decide +kernel
theorem dX5_wishes_9 : decode cX5_wishes 9 = .ok (.ireturn, 1) := by decide +kernel
theorem dX5_freedom_0 : decode cX5_freedom 0 = .ok (.aload_n 0, 1) := by decide +kernel
theorem dX5_freedom_1 : decode cX5_freedom 1 = .ok (.iconst 0, 1) := by decide +kernel
theorem dX5_freedom_2 : decode cX5_freedom 2 = .ok (.putfield 74, 3) := by decide +kernel
theorem dX5_freedom_5 : decode cX5_freedom 5 = .ok (.aload_n 0, 1) := by decide +kernel
theorem dX5_freedom_6 : decode cX5_freedom 6 = .ok (.invokevirtual 110, 3) := by decide +kernel
theorem dX5_freedom_9 : decode cX5_freedom 9 = .ok (.iconst 0, 1) := by decide +kernel
theorem dX5_freedom_10 : decode cX5_freedom 10 = .ok (.istore_n 1, 1) := by decide +kernel
theorem dX5_freedom_11 : decode cX5_freedom 11 = .ok (.iconst 0, 1) := by decide +kernel
theorem dX5_freedom_12 : decode cX5_freedom 12 = .ok (.istore_n 2, 1) := by decide +kernel
theorem dX5_freedom_13 : decode cX5_freedom 13 = .ok (.iload_n 2, 1) := by decide +kernel
theorem dX5_freedom_14 : decode cX5_freedom 14 = .ok (.bipush 34, 2) := by decide +kernel
theorem dX5_freedom_16 : decode cX5_freedom 16 = .ok (.if_icmp .ge 112, 3) := by decide +kernel
theorem dX5_freedom_19 : decode cX5_freedom 19 = .ok (.iload_n 2, 1) := by decide +kernel
theorem dX5_freedom_20 : decode cX5_freedom 20 = .ok (.bipush 17, 2) := by decide +kernel
theorem dX5_freedom_22 : decode cX5_freedom 22 = .ok (.idiv, 1) := by decide +kernel
theorem dX5_freedom_23 : decode cX5_freedom 23 = .ok (.istore_n 3, 1) := by decide +kernel
theorem dX5_freedom_24 : decode cX5_freedom 24 = .ok (.iload_n 2, 1) := by decide +kernel
theorem dX5_freedom_25 : decode cX5_freedom 25 = .ok (.bipush 17, 2) := by decide +kernel
theorem dX5_freedom_27 : decode cX5_freedom 27 = .ok (.irem, 1) := by decide +kernel
theorem dX5_freedom_28 : decode cX5_freedom 28 = .ok (.aload_n 0, 1) := by decide +kernel
theorem dX5_freedom_29 : decode cX5_freedom 29 = .ok (.getfield 82, 3) := by decide +kernel
theorem dX5_freedom_32 : decode cX5_freedom 32 = .ok (.if_icmp .ge 28, 3) := by decide +kernel
theorem dX5_freedom_35 : decode cX5_freedom 35 = .ok (.aload_n 0, 1) := by decide +kernel
theorem dX5_freedom_36 : decode cX5_freedom 36 = .ok (.getfield 38, 3) := by decide +kernel
theorem dX5_freedom_39 : decode cX5_freedom 39 = .ok (.iload_n 2, 1) := by decide +kernel
theorem dX5_freedom_40 : decode cX5_freedom 40 = .ok (.iaload, 1) := by decide +kernel
theorem dX5_freedom_41 : decode cX5_freedom 41 = .ok (.aload_n 0, 1) := by decide +kernel
theorem dX5_freedom_42 : decode cX5_freedom 42 = .ok (.getfield 38, 3) := by decide +kernel
theorem dX5_freedom_45 : decode cX5_freedom 45 = .ok (.bipush 17, 2) := by decide +kernel
theorem dX5_freedom_47 : decode cX5_freedom 47 = .ok (.iload_n 3, 1) := by decide +kernel
theorem dX5_freedom_48 : decode cX5_freedom 48 = .ok (.imul, 1) := by decide +kernel
theorem dX5_freedom_49 : decode cX5_freedom 49 = .ok (.bipush 16, 2) := by decide +kernel
theorem dX5_freedom_51 : decode cX5_freedom 51 = .ok (.iadd, 1) := by decide +kernel
theorem dX5_freedom_52 : decode cX5_freedom 52 = .ok (.iaload, 1) := by decide +kernel
theorem dX5_freedom_53 : decode cX5_freedom 53 = .ok (.if_icmp .eq 7, 3) := by decide +kernel
theorem dX5_freedom_56 : decode cX5_freedom 56 = .ok (.iconst 1, 1) := by decide +kernel
theorem dX5_freedom_57 : decode cX5_freedom 57 = .ok (.goto 4, 3) := by decide +kernel
theorem dX5_freedom_60 : decode cX5_freedom 60 = .ok (.iconst 0, 1) := by decide +kernel
theorem dX5_freedom_61 : decode cX5_freedom 61 = .ok (.istore 4, 2) := by decide +kernel
theorem dX5_freedom_63 : decode cX5_freedom 63 = .ok (.bipush 17, 2) := by decide +kernel
theorem dX5_freedom_65 : decode cX5_freedom 65 = .ok (.iload_n 3, 1) := by decide +kernel
theorem dX5_freedom_66 : decode cX5_freedom 66 = .ok (.imul, 1) := by decide +kernel
theorem dX5_freedom_67 : decode cX5_freedom 67 = .ok (.istore 5, 2) := by decide +kernel
theorem dX5_freedom_69 : decode cX5_freedom 69 = .ok (.iload 5, 2) := by decide +kernel
theorem dX5_freedom_71 : decode cX5_freedom 71 = .ok (.iload_n 2, 1) := by decide +kernel
theorem dX5_freedom_72 : decode cX5_freedom 72 = .ok (.if_icmp .ge 37, 3) := by decide +kernel
theorem dX5_freedom_75 : decode cX5_freedom 75 = .ok (.iload 4, 2) := by decide +kernel
theorem dX5_freedom_77 : decode cX5_freedom 77 = .ok (.ifCond .eq 23, 3) := by decide +kernel
theorem dX5_freedom_80 : decode cX5_freedom 80 = .ok (.aload_n 0, 1) := by decide +kernel
theorem dX5_freedom_81 : decode cX5_freedom 81 = .ok (.getfield 38, 3) := by decide +kernel
theorem dX5_freedom_84 : decode cX5_freedom 84 = .ok (.iload 5, 2) := by decide +kernel
theorem dX5_freedom_86 : decode cX5_freedom 86 = .ok (.iaload, 1) := by decide +kernel
theorem dX5_freedom_87 : decode cX5_freedom 87 = .ok (.aload_n 0, 1) := by decide +kernel
theorem dX5_freedom_88 : decode cX5_freedom 88 = .ok (.getfield 38, 3) := by decide +kernel
theorem dX5_freedom_91 : decode cX5_freedom 91 = .ok (.iload_n 2, 1) := by decide +kernel
theorem dX5_freedom_92 : decode cX5_freedom 92 = .ok (.iaload, 1) := by decide +kernel
theorem dX5_freedom_93 : decode cX5_freedom 93 = .ok (.if_icmp .eq 7, 3) := by decide +kernel
theorem dX5_freedom_96 : decode cX5_freedom 96 = .ok (.iconst 1, 1) := by decide +kernel
theorem dX5_freedom_97 : decode cX5_freedom 97 = .ok (.goto 4, 3) := by decide +kernel
theorem dX5_freedom_100 : decode cX5_freedom 100 = .ok (.iconst 0, 1) := by decide +kernel
theorem dX5_freedom_101 : decode cX5_freedom 101 = .ok (.istore 4, 2) := by decide +kernel
theorem dX5_freedom_103 : decode cX5_freedom 103 = .ok (.iinc 5 1, 3) := by decide +kernel
theorem dX5_freedom_106 : decode cX5_freedom 106 = .ok (.goto (-37), 3) := by decide +kernel
theorem dX5_freedom_109 : decode cX5_freedom 109 = .ok (.iload_n 1, 1) := by decide +kernel
theorem dX5_freedom_110 : decode cX5_freedom 110 = .ok (.iload 4, 2) := by decide +kernel
theorem dX5_freedom_112 : decode cX5_freedom 112 = .ok (.ifCond .eq 7, 3) := by decide +kernel
theorem dX5_freedom_115 : decode cX5_freedom 115 = .ok (.iconst 1, 1) := by decide +kernel
theorem dX5_freedom_116 : decode cX5_freedom 116 = .ok (.goto 4, 3) := by decide +kernel
theorem dX5_freedom_119 : decode cX5_freedom 119 = .ok (.iconst 0, 1) := by decide +kernel
theorem dX5_freedom_120 : decode cX5_freedom 120 = .ok (.iadd, 1) := by decide +kernel
theorem dX5_freedom_121 : decode cX5_freedom 121 = .ok (.istore_n 1, 1) := by decide +kernel
theorem dX5_freedom_122 : decode cX5_freedom 122 = .ok (.iinc 2 1, 3) := by decide +kernel
theorem dX5_freedom_125 : decode cX5_freedom 125 = .ok (.goto (-112), 3) := by decide +kernel
theorem dX5_freedom_128 : decode cX5_freedom 128 = .ok (.iload_n 1, 1) := by decide +kernel
theorem dX5_freedom_129 : decode cX5_freedom 129 = .ok (.ireturn, 1) := by decide +kernel
theorem dX5_x_0 : decode cX5_x 0 = .ok (.aload_n 0, 1) := by decide +kernel
theorem dX5_x_1 : decode cX5_x 1 = .ok (.iconst 0, 1) := by decide +kernel
theorem dX5_x_2 : decode cX5_x 2 = .ok (.putfield 74, 3) := by decide +kernel
theorem dX5_x_5 : decode cX5_x 5 = .ok (.aload_n 0, 1) := by decide +kernel
theorem dX5_x_6 : decode cX5_x 6 = .ok (.iload_n 1, 1) := by decide +kernel
theorem dX5_x_7 : decode cX5_x 7 = .ok (.invokevirtual 104, 3) := by decide +kernel
theorem dX5_x_10 : decode cX5_x 10 = .ok (.ifCond .ne 9, 3) := by decide +kernel
theorem dX5_x_13 : decode cX5_x 13 = .ok (.aload_n 0, 1) := by decide +kernel
theorem dX5_x_14 : decode cX5_x 14 = .ok (.iconst 1, 1) := by decide +kernel
theorem dX5_x_15 : decode cX5_x 15 = .ok (.invokevirtual 100, 3) := by decide +kernel
theorem dX5_x_18 : decode cX5_x 18 = .ok (.ireturn, 1) := by decide +kernel
theorem dX5_x_19 : decode cX5_x 19 = .ok (.aload_n 0, 1) := by decide +kernel
theorem dX5_x_20 : decode cX5_x 20 = .ok (.invokevirtual 110, 3) := by decide +kernel
theorem dX5_x_23 : decode cX5_x 23 = .ok (.aload_n 0, 1) := by decide +kernel
theorem dX5_x_24 : decode cX5_x 24 = .ok (.iconst 0, 1) := by decide +kernel
theorem dX5_x_25 : decode cX5_x 25 = .ok (.iload_n 1, 1) := by decide +kernel
theorem dX5_x_26 : decode cX5_x 26 = .ok (.invokevirtual 113, 3) := by decide +kernel
theorem dX5_x_29 : decode cX5_x 29 = .ok (.ireturn, 1) := by decide +kernel
theorem dX5_y_0 : decode cX5_y 0 = .ok (.aload_n 0, 1) := by decide +kernel
theorem dX5_y_1 : decode cX5_y 1 = .ok (.iconst 0, 1) := by decide +kernel
theorem dX5_y_2 : decode cX5_y 2 = .ok (.putfield 74, 3) := by decide +kernel
theorem dX5_y_5 : decode cX5_y 5 = .ok (.aload_n 0, 1) := by decide +kernel
theorem dX5_y_6 : decode cX5_y 6 = .ok (.iload_n 1, 1) := by decide +kernel
theorem dX5_y_7 : decode cX5_y 7 = .ok (.invokevirtual 104, 3) := by decide +kernel
theorem dX5_y_10 : decode cX5_y 10 = .ok (.ifCond .ne 9, 3) := by decide +kernel
theorem dX5_y_13 : decode cX5_y 13 = .ok (.aload_n 0, 1) := by decide +kernel
theorem dX5_y_14 : decode cX5_y 14 = .ok (.iconst 1, 1) := by decide +kernel
theorem dX5_y_15 : decode cX5_y 15 = .ok (.invokevirtual 100, 3) := by decide +kernel
theorem dX5_y_18 : decode cX5_y 18 = .ok (.ireturn, 1) := by decide +kernel
theorem dX5_y_19 : decode cX5_y 19 = .ok (.aload_n 0, 1) := by decide +kernel
theorem dX5_y_20 : decode cX5_y 20 = .ok (.invokevirtual 110, 3) := by decide +kernel
theorem dX5_y_23 : decode cX5_y 23 = .ok (.aload_n 0, 1) := by decide +kernel
theorem dX5_y_24 : decode cX5_y 24 = .ok (.iconst 1, 1) := by decide +kernel
theorem dX5_y_25 : decode cX5_y 25 = .ok (.iload_n 1, 1) := by decide +kernel
theorem dX5_y_26 : decode cX5_y 26 = .ok (.invokevirtual 113, 3) := by decide +kernel
theorem dX5_y_29 : decode cX5_y 29 = .ok (.ireturn, 1) := by decide +kernel
theorem dX5_tell_0 : decode cX5_tell 0 = .ok (.aload_n 0, 1) := by decide +kernel
theorem dX5_tell_1 : decode cX5_tell 1 = .ok (.iconst 0, 1) := by decide +kernel
theorem dX5_tell_2 : decode cX5_tell 2 = .ok (.putfield 74, 3) := by decide +kernel
theorem dX5_tell_5 : decode cX5_tell 5 = .ok (.iload_n 1, 1) := by decide +kernel
theorem dX5_tell_6 : decode cX5_tell 6 = .ok (.iconst 0, 1) := by decide +kernel
theorem dX5_tell_7 : decode cX5_tell 7 = .ok (.iconst 3, 1) := by decide +kernel
theorem dX5_tell_8 : decode cX5_tell 8 = .ok (.invokestatic 78, 3) := by decide +kernel
theorem dX5_tell_11 : decode cX5_tell 11 = .ok (.ifCond .eq 10, 3) := by decide +kernel
theorem dX5_tell_14 : decode cX5_tell 14 = .ok (.iload_n 3, 1) := by decide +kernel
theorem dX5_tell_15 : decode cX5_tell 15 = .ok (.invokestatic 96, 3) := by decide +kernel
theorem dX5_tell_18 : decode cX5_tell 18 = .ok (.ifCond .ne 9, 3) := by decide +kernel
theorem dX5_tell_21 : decode cX5_tell 21 = .ok (.aload_n 0, 1) := by decide +kernel
theorem dX5_tell_22 : decode cX5_tell 22 = .ok (.iconst 1, 1) := by decide +kernel
theorem dX5_tell_23 : decode cX5_tell 23 = .ok (.invokevirtual 100, 3) := by decide +kernel
theorem dX5_tell_26 : decode cX5_tell 26 = .ok (.ireturn, 1) := by decide +kernel
theorem dX5_tell_27 : decode cX5_tell 27 = .ok (.aload_n 0, 1) := by decide +kernel
theorem dX5_tell_28 : decode cX5_tell 28 = .ok (.iload_n 2, 1) := by decide +kernel
theorem dX5_tell_29 : decode cX5_tell 29 = .ok (.invokevirtual 107, 3) := by decide +kernel
theorem dX5_tell_32 : decode cX5_tell 32 = .ok (.ifCond .ne 9, 3) := by decide +kernel
theorem dX5_tell_35 : decode cX5_tell 35 = .ok (.aload_n 0, 1) := by decide +kernel
theorem dX5_tell_36 : decode cX5_tell 36 = .ok (.iconst 2, 1) := by decide +kernel
theorem dX5_tell_37 : decode cX5_tell 37 = .ok (.invokevirtual 100, 3) := by decide +kernel
theorem dX5_tell_40 : decode cX5_tell 40 = .ok (.ireturn, 1) := by decide +kernel
theorem dX5_tell_41 : decode cX5_tell 41 = .ok (.aload_n 0, 1) := by decide +kernel
theorem dX5_tell_42 : decode cX5_tell 42 = .ok (.getfield 16, 3) := by decide +kernel
theorem dX5_tell_45 : decode cX5_tell 45 = .ok (.iload_n 2, 1) := by decide +kernel
theorem dX5_tell_46 : decode cX5_tell 46 = .ok (.iaload, 1) := by decide +kernel
theorem dX5_tell_47 : decode cX5_tell 47 = .ok (.iconst 2, 1) := by decide +kernel
theorem dX5_tell_48 : decode cX5_tell 48 = .ok (.if_icmp .ne 9, 3) := by decide +kernel
theorem dX5_tell_51 : decode cX5_tell 51 = .ok (.aload_n 0, 1) := by decide +kernel
theorem dX5_tell_52 : decode cX5_tell 52 = .ok (.iconst 3, 1) := by decide +kernel
theorem dX5_tell_53 : decode cX5_tell 53 = .ok (.invokevirtual 100, 3) := by decide +kernel
theorem dX5_tell_56 : decode cX5_tell 56 = .ok (.ireturn, 1) := by decide +kernel
theorem dX5_tell_57 : decode cX5_tell 57 = .ok (.aload_n 0, 1) := by decide +kernel
theorem dX5_tell_58 : decode cX5_tell 58 = .ok (.getfield 31, 3) := by decide +kernel
theorem dX5_tell_61 : decode cX5_tell 61 = .ok (.bipush 40, 2) := by decide +kernel
theorem dX5_tell_63 : decode cX5_tell 63 = .ok (.iload_n 1, 1) := by decide +kernel
theorem dX5_tell_64 : decode cX5_tell 64 = .ok (.imul, 1) := by decide +kernel
theorem dX5_tell_65 : decode cX5_tell 65 = .ok (.iload_n 2, 1) := by decide +kernel
theorem dX5_tell_66 : decode cX5_tell 66 = .ok (.iadd, 1) := by decide +kernel
theorem dX5_tell_67 : decode cX5_tell 67 = .ok (.iload_n 3, 1) := by decide +kernel
theorem dX5_tell_68 : decode cX5_tell 68 = .ok (.iastore, 1) := by decide +kernel
theorem dX5_tell_69 : decode cX5_tell 69 = .ok (.aload_n 0, 1) := by decide +kernel
theorem dX5_tell_70 : decode cX5_tell 70 = .ok (.getfield 34, 3) := by decide +kernel
theorem dX5_tell_73 : decode cX5_tell 73 = .ok (.bipush 40, 2) := by decide +kernel
theorem dX5_tell_75 : decode cX5_tell 75 = .ok (.iload_n 1, 1) := by decide +kernel
theorem dX5_tell_76 : decode cX5_tell 76 = .ok (.imul, 1) := by decide +kernel
theorem dX5_tell_77 : decode cX5_tell 77 = .ok (.iload_n 2, 1) := by decide +kernel
theorem dX5_tell_78 : decode cX5_tell 78 = .ok (.iadd, 1) := by decide +kernel
theorem dX5_tell_79 : decode cX5_tell 79 = .ok (.iconst 1, 1) := by decide +kernel
theorem dX5_tell_80 : decode cX5_tell 80 = .ok (.bastore, 1) := by decide +kernel
theorem dX5_tell_81 : decode cX5_tell 81 = .ok (.iconst 0, 1) := by decide +kernel
theorem dX5_tell_82 : decode cX5_tell 82 = .ok (.istore 4, 2) := by decide +kernel
theorem dX5_tell_84 : decode cX5_tell 84 = .ok (.iconst 0, 1) := by decide +kernel
theorem dX5_tell_85 : decode cX5_tell 85 = .ok (.istore 5, 2) := by decide +kernel
theorem dX5_tell_87 : decode cX5_tell 87 = .ok (.iload 5, 2) := by decide +kernel
theorem dX5_tell_89 : decode cX5_tell 89 = .ok (.aload_n 0, 1) := by decide +kernel
theorem dX5_tell_90 : decode cX5_tell 90 = .ok (.getfield 85, 3) := by decide +kernel
theorem dX5_tell_93 : decode cX5_tell 93 = .ok (.if_icmp .ge 34, 3) := by decide +kernel
theorem dX5_tell_96 : decode cX5_tell 96 = .ok (.iload 4, 2) := by decide +kernel
theorem dX5_tell_98 : decode cX5_tell 98 = .ok (.aload_n 0, 1) := by decide +kernel
theorem dX5_tell_99 : decode cX5_tell 99 = .ok (.getfield 34, 3) := by decide +kernel
theorem dX5_tell_102 : decode cX5_tell 102 = .ok (.bipush 40, 2) := by decide +kernel
theorem dX5_tell_104 : decode cX5_tell 104 = .ok (.iload_n 1, 1) := by decide +kernel
theorem dX5_tell_105 : decode cX5_tell 105 = .ok (.imul, 1) := by decide +kernel
theorem dX5_tell_106 : decode cX5_tell 106 = .ok (.iload 5, 2) := by decide +kernel
theorem dX5_tell_108 : decode cX5_tell 108 = .ok (.iadd, 1) := by decide +kernel
theorem dX5_tell_109 : decode cX5_tell 109 = .ok (.baload, 1) := by decide +kernel
theorem dX5_tell_110 : decode cX5_tell 110 = .ok (.ifCond .eq 7, 3) := by decide +kernel
theorem dX5_tell_113 : decode cX5_tell 113 = .ok (.iconst 1, 1) := by decide +kernel
theorem dX5_tell_114 : decode cX5_tell 114 = .ok (.goto 4, 3) := by decide +kernel
theorem dX5_tell_117 : decode cX5_tell 117 = .ok (.iconst 0, 1) := by decide +kernel
theorem dX5_tell_118 : decode cX5_tell 118 = .ok (.iadd, 1) := by decide +kernel
theorem dX5_tell_119 : decode cX5_tell 119 = .ok (.istore 4, 2) := by decide +kernel
theorem dX5_tell_121 : decode cX5_tell 121 = .ok (.iinc 5 1, 3) := by decide +kernel
theorem dX5_tell_124 : decode cX5_tell 124 = .ok (.goto (-37), 3) := by decide +kernel
theorem dX5_tell_127 : decode cX5_tell 127 = .ok (.iload 4, 2) := by decide +kernel
theorem dX5_tell_129 : decode cX5_tell 129 = .ok (.ireturn, 1) := by decide +kernel
theorem dX5_choose_0 : decode cX5_choose 0 = .ok (.aload_n 0, 1) := by decide +kernel
theorem dX5_choose_1 : decode cX5_choose 1 = .ok (.iconst 0, 1) := by decide +kernel
theorem dX5_choose_2 : decode cX5_choose 2 = .ok (.putfield 74, 3) := by decide +kernel
theorem dX5_choose_5 : decode cX5_choose 5 = .ok (.iload_n 1, 1) := by decide +kernel
theorem dX5_choose_6 : decode cX5_choose 6 = .ok (.iconst 0, 1) := by decide +kernel
theorem dX5_choose_7 : decode cX5_choose 7 = .ok (.iconst 3, 1) := by decide +kernel
theorem dX5_choose_8 : decode cX5_choose 8 = .ok (.invokestatic 78, 3) := by decide +kernel
theorem dX5_choose_11 : decode cX5_choose 11 = .ok (.ifCond .ne 9, 3) := by decide +kernel
theorem dX5_choose_14 : decode cX5_choose 14 = .ok (.aload_n 0, 1) := by decide +kernel
theorem dX5_choose_15 : decode cX5_choose 15 = .ok (.iconst 1, 1) := by decide +kernel
theorem dX5_choose_16 : decode cX5_choose 16 = .ok (.invokevirtual 100, 3) := by decide +kernel
theorem dX5_choose_19 : decode cX5_choose 19 = .ok (.ireturn, 1) := by decide +kernel
theorem dX5_choose_20 : decode cX5_choose 20 = .ok (.iconst 0, 1) := by decide +kernel
theorem dX5_choose_21 : decode cX5_choose 21 = .ok (.istore_n 2, 1) := by decide +kernel
theorem dX5_choose_22 : decode cX5_choose 22 = .ok (.iconst 0, 1) := by decide +kernel
theorem dX5_choose_23 : decode cX5_choose 23 = .ok (.istore_n 3, 1) := by decide +kernel
theorem dX5_choose_24 : decode cX5_choose 24 = .ok (.iload_n 3, 1) := by decide +kernel
theorem dX5_choose_25 : decode cX5_choose 25 = .ok (.aload_n 0, 1) := by decide +kernel
theorem dX5_choose_26 : decode cX5_choose 26 = .ok (.getfield 85, 3) := by decide +kernel
theorem dX5_choose_29 : decode cX5_choose 29 = .ok (.if_icmp .ge 86, 3) := by decide +kernel
theorem dX5_choose_32 : decode cX5_choose 32 = .ok (.aload_n 0, 1) := by decide +kernel
theorem dX5_choose_33 : decode cX5_choose 33 = .ok (.getfield 34, 3) := by decide +kernel
theorem dX5_choose_36 : decode cX5_choose 36 = .ok (.bipush 40, 2) := by decide +kernel
theorem dX5_choose_38 : decode cX5_choose 38 = .ok (.iload_n 1, 1) := by decide +kernel
theorem dX5_choose_39 : decode cX5_choose 39 = .ok (.imul, 1) := by decide +kernel
theorem dX5_choose_40 : decode cX5_choose 40 = .ok (.iload_n 3, 1) := by decide +kernel
theorem dX5_choose_41 : decode cX5_choose 41 = .ok (.iadd, 1) := by decide +kernel
theorem dX5_choose_42 : decode cX5_choose 42 = .ok (.baload, 1) := by decide +kernel
theorem dX5_choose_43 : decode cX5_choose 43 = .ok (.istore 4, 2) := by decide +kernel
theorem dX5_choose_45 : decode cX5_choose 45 = .ok (.iload_n 2, 1) := by decide +kernel
theorem dX5_choose_46 : decode cX5_choose 46 = .ok (.iload 4, 2) := by decide +kernel
theorem dX5_choose_48 : decode cX5_choose 48 = .ok (.ifCond .eq 27, 3) := by decide +kernel
theorem dX5_choose_51 : decode cX5_choose 51 = .ok (.aload_n 0, 1) := by decide +kernel
theorem dX5_choose_52 : decode cX5_choose 52 = .ok (.getfield 25, 3) := by decide +kernel
theorem dX5_choose_55 : decode cX5_choose 55 = .ok (.iload_n 3, 1) := by decide +kernel
theorem dX5_choose_56 : decode cX5_choose 56 = .ok (.iaload, 1) := by decide +kernel
theorem dX5_choose_57 : decode cX5_choose 57 = .ok (.aload_n 0, 1) := by decide +kernel
theorem dX5_choose_58 : decode cX5_choose 58 = .ok (.getfield 31, 3) := by decide +kernel
theorem dX5_choose_61 : decode cX5_choose 61 = .ok (.bipush 40, 2) := by decide +kernel
theorem dX5_choose_63 : decode cX5_choose 63 = .ok (.iload_n 1, 1) := by decide +kernel
theorem dX5_choose_64 : decode cX5_choose 64 = .ok (.imul, 1) := by decide +kernel
theorem dX5_choose_65 : decode cX5_choose 65 = .ok (.iload_n 3, 1) := by decide +kernel
theorem dX5_choose_66 : decode cX5_choose 66 = .ok (.iadd, 1) := by decide +kernel
theorem dX5_choose_67 : decode cX5_choose 67 = .ok (.iaload, 1) := by decide +kernel
theorem dX5_choose_68 : decode cX5_choose 68 = .ok (.if_icmp .eq 7, 3) := by decide +kernel
theorem dX5_choose_71 : decode cX5_choose 71 = .ok (.iconst 1, 1) := by decide +kernel
theorem dX5_choose_72 : decode cX5_choose 72 = .ok (.goto 4, 3) := by decide +kernel
theorem dX5_choose_75 : decode cX5_choose 75 = .ok (.iconst 0, 1) := by decide +kernel
theorem dX5_choose_76 : decode cX5_choose 76 = .ok (.iadd, 1) := by decide +kernel
theorem dX5_choose_77 : decode cX5_choose 77 = .ok (.istore_n 2, 1) := by decide +kernel
theorem dX5_choose_78 : decode cX5_choose 78 = .ok (.aload_n 0, 1) := by decide +kernel
theorem dX5_choose_79 : decode cX5_choose 79 = .ok (.getfield 25, 3) := by decide +kernel
theorem dX5_choose_82 : decode cX5_choose 82 = .ok (.iload_n 3, 1) := by decide +kernel
theorem dX5_choose_83 : decode cX5_choose 83 = .ok (.iload 4, 2) := by decide +kernel
theorem dX5_choose_85 : decode cX5_choose 85 = .ok (.ifCond .eq 17, 3) := by decide +kernel
theorem dX5_choose_88 : decode cX5_choose 88 = .ok (.aload_n 0, 1) := by decide +kernel
theorem dX5_choose_89 : decode cX5_choose 89 = .ok (.getfield 31, 3) := by decide +kernel
theorem dX5_choose_92 : decode cX5_choose 92 = .ok (.bipush 40, 2) := by decide +kernel
theorem dX5_choose_94 : decode cX5_choose 94 = .ok (.iload_n 1, 1) := by decide +kernel
theorem dX5_choose_95 : decode cX5_choose 95 = .ok (.imul, 1) := by decide +kernel
theorem dX5_choose_96 : decode cX5_choose 96 = .ok (.iload_n 3, 1) := by decide +kernel
theorem dX5_choose_97 : decode cX5_choose 97 = .ok (.iadd, 1) := by decide +kernel
theorem dX5_choose_98 : decode cX5_choose 98 = .ok (.iaload, 1) := by decide +kernel
theorem dX5_choose_99 : decode cX5_choose 99 = .ok (.goto 9, 3) := by decide +kernel
theorem dX5_choose_102 : decode cX5_choose 102 = .ok (.aload_n 0, 1) := by decide +kernel
theorem dX5_choose_103 : decode cX5_choose 103 = .ok (.getfield 25, 3) := by decide +kernel
theorem dX5_choose_106 : decode cX5_choose 106 = .ok (.iload_n 3, 1) := by decide +kernel
theorem dX5_choose_107 : decode cX5_choose 107 = .ok (.iaload, 1) := by decide +kernel
theorem dX5_choose_108 : decode cX5_choose 108 = .ok (.iastore, 1) := by decide +kernel
theorem dX5_choose_109 : decode cX5_choose 109 = .ok (.iinc 3 1, 3) := by decide +kernel
theorem dX5_choose_112 : decode cX5_choose 112 = .ok (.goto (-88), 3) := by decide +kernel
theorem dX5_choose_115 : decode cX5_choose 115 = .ok (.iload_n 2, 1) := by decide +kernel
theorem dX5_choose_116 : decode cX5_choose 116 = .ok (.ireturn, 1) := by decide +kernel
theorem dX5_sides_0 : decode cX5_sides 0 = .ok (.aload_n 0, 1) := by decide +kernel
theorem dX5_sides_1 : decode cX5_sides 1 = .ok (.iconst 0, 1) := by decide +kernel
theorem dX5_sides_2 : decode cX5_sides 2 = .ok (.iload_n 2, 1) := by decide +kernel
theorem dX5_sides_3 : decode cX5_sides 3 = .ok (.invokevirtual 113, 3) := by decide +kernel
theorem dX5_sides_6 : decode cX5_sides 6 = .ok (.istore 4, 2) := by decide +kernel
theorem dX5_sides_8 : decode cX5_sides 8 = .ok (.aload_n 0, 1) := by decide +kernel
theorem dX5_sides_9 : decode cX5_sides 9 = .ok (.iconst 0, 1) := by decide +kernel
theorem dX5_sides_10 : decode cX5_sides 10 = .ok (.iload_n 3, 1) := by decide +kernel
theorem dX5_sides_11 : decode cX5_sides 11 = .ok (.invokevirtual 113, 3) := by decide +kernel
theorem dX5_sides_14 : decode cX5_sides 14 = .ok (.istore 5, 2) := by decide +kernel
theorem dX5_sides_16 : decode cX5_sides 16 = .ok (.aload_n 0, 1) := by decide +kernel
theorem dX5_sides_17 : decode cX5_sides 17 = .ok (.iconst 1, 1) := by decide +kernel
theorem dX5_sides_18 : decode cX5_sides 18 = .ok (.iload_n 2, 1) := by decide +kernel
theorem dX5_sides_19 : decode cX5_sides 19 = .ok (.invokevirtual 113, 3) := by decide +kernel
theorem dX5_sides_22 : decode cX5_sides 22 = .ok (.istore 6, 2) := by decide +kernel
theorem dX5_sides_24 : decode cX5_sides 24 = .ok (.aload_n 0, 1) := by decide +kernel
theorem dX5_sides_25 : decode cX5_sides 25 = .ok (.iconst 1, 1) := by decide +kernel
theorem dX5_sides_26 : decode cX5_sides 26 = .ok (.iload_n 3, 1) := by decide +kernel
theorem dX5_sides_27 : decode cX5_sides 27 = .ok (.invokevirtual 113, 3) := by decide +kernel
theorem dX5_sides_30 : decode cX5_sides 30 = .ok (.istore 7, 2) := by decide +kernel
theorem dX5_sides_32 : decode cX5_sides 32 = .ok (.aload_n 0, 1) := by decide +kernel
theorem dX5_sides_33 : decode cX5_sides 33 = .ok (.getfield 56, 3) := by decide +kernel
theorem dX5_sides_36 : decode cX5_sides 36 = .ok (.iconst 4, 1) := by decide +kernel
theorem dX5_sides_37 : decode cX5_sides 37 = .ok (.iload_n 1, 1) := by decide +kernel
theorem dX5_sides_38 : decode cX5_sides 38 = .ok (.imul, 1) := by decide +kernel
theorem dX5_sides_39 : decode cX5_sides 39 = .ok (.iload 4, 2) := by decide +kernel
theorem dX5_sides_41 : decode cX5_sides 41 = .ok (.iload 5, 2) := by decide +kernel
theorem dX5_sides_43 : decode cX5_sides 43 = .ok (.if_icmp .ge 8, 3) := by decide +kernel
theorem dX5_sides_46 : decode cX5_sides 46 = .ok (.iload 4, 2) := by decide +kernel
theorem dX5_sides_48 : decode cX5_sides 48 = .ok (.goto 5, 3) := by decide +kernel
theorem dX5_sides_51 : decode cX5_sides 51 = .ok (.iload 5, 2) := by decide +kernel
theorem dX5_sides_53 : decode cX5_sides 53 = .ok (.iastore, 1) := by decide +kernel
theorem dX5_sides_54 : decode cX5_sides 54 = .ok (.aload_n 0, 1) := by decide +kernel
theorem dX5_sides_55 : decode cX5_sides 55 = .ok (.getfield 56, 3) := by decide +kernel
theorem dX5_sides_58 : decode cX5_sides 58 = .ok (.iconst 4, 1) := by decide +kernel
theorem dX5_sides_59 : decode cX5_sides 59 = .ok (.iload_n 1, 1) := by decide +kernel
theorem dX5_sides_60 : decode cX5_sides 60 = .ok (.imul, 1) := by decide +kernel
theorem dX5_sides_61 : decode cX5_sides 61 = .ok (.iconst 1, 1) := by decide +kernel
theorem dX5_sides_62 : decode cX5_sides 62 = .ok (.iadd, 1) := by decide +kernel
theorem dX5_sides_63 : decode cX5_sides 63 = .ok (.iload 4, 2) := by decide +kernel
theorem dX5_sides_65 : decode cX5_sides 65 = .ok (.iload 5, 2) := by decide +kernel
theorem dX5_sides_67 : decode cX5_sides 67 = .ok (.if_icmp .ge 8, 3) := by decide +kernel
theorem dX5_sides_70 : decode cX5_sides 70 = .ok (.iload 5, 2) := by decide +kernel
theorem dX5_sides_72 : decode cX5_sides 72 = .ok (.goto 5, 3) := by decide +kernel
theorem dX5_sides_75 : decode cX5_sides 75 = .ok (.iload 4, 2) := by decide +kernel
theorem dX5_sides_77 : decode cX5_sides 77 = .ok (.iastore, 1) := by decide +kernel
theorem dX5_sides_78 : decode cX5_sides 78 = .ok (.aload_n 0, 1) := by decide +kernel
theorem dX5_sides_79 : decode cX5_sides 79 = .ok (.getfield 56, 3) := by decide +kernel
theorem dX5_sides_82 : decode cX5_sides 82 = .ok (.iconst 4, 1) := by decide +kernel
theorem dX5_sides_83 : decode cX5_sides 83 = .ok (.iload_n 1, 1) := by decide +kernel
theorem dX5_sides_84 : decode cX5_sides 84 = .ok (.imul, 1) := by decide +kernel
theorem dX5_sides_85 : decode cX5_sides 85 = .ok (.iconst 2, 1) := by decide +kernel
theorem dX5_sides_86 : decode cX5_sides 86 = .ok (.iadd, 1) := by decide +kernel
theorem dX5_sides_87 : decode cX5_sides 87 = .ok (.iload 6, 2) := by decide +kernel
theorem dX5_sides_89 : decode cX5_sides 89 = .ok (.iload 7, 2) := by decide +kernel
theorem dX5_sides_91 : decode cX5_sides 91 = .ok (.if_icmp .ge 8, 3) := by decide +kernel
theorem dX5_sides_94 : decode cX5_sides 94 = .ok (.iload 6, 2) := by decide +kernel
theorem dX5_sides_96 : decode cX5_sides 96 = .ok (.goto 5, 3) := by decide +kernel
theorem dX5_sides_99 : decode cX5_sides 99 = .ok (.iload 7, 2) := by decide +kernel
theorem dX5_sides_101 : decode cX5_sides 101 = .ok (.iastore, 1) := by decide +kernel
theorem dX5_sides_102 : decode cX5_sides 102 = .ok (.aload_n 0, 1) := by decide +kernel
theorem dX5_sides_103 : decode cX5_sides 103 = .ok (.getfield 56, 3) := by decide +kernel
theorem dX5_sides_106 : decode cX5_sides 106 = .ok (.iconst 4, 1) := by decide +kernel
theorem dX5_sides_107 : decode cX5_sides 107 = .ok (.iload_n 1, 1) := by decide +kernel
theorem dX5_sides_108 : decode cX5_sides 108 = .ok (.imul, 1) := by decide +kernel
theorem dX5_sides_109 : decode cX5_sides 109 = .ok (.iconst 3, 1) := by decide +kernel
theorem dX5_sides_110 : decode cX5_sides 110 = .ok (.iadd, 1) := by decide +kernel
theorem dX5_sides_111 : decode cX5_sides 111 = .ok (.iload 6, 2) := by decide +kernel
theorem dX5_sides_113 : decode cX5_sides 113 = .ok (.iload 7, 2) := by decide +kernel
theorem dX5_sides_115 : decode cX5_sides 115 = .ok (.if_icmp .ge 8, 3) := by decide +kernel
theorem dX5_sides_118 : decode cX5_sides 118 = .ok (.iload 7, 2) := by decide +kernel
theorem dX5_sides_120 : decode cX5_sides 120 = .ok (.goto 5, 3) := by decide +kernel
theorem dX5_sides_123 : decode cX5_sides 123 = .ok (.iload 6, 2) := by decide +kernel
theorem dX5_sides_125 : decode cX5_sides 125 = .ok (.iastore, 1) := by decide +kernel
theorem dX5_sides_126 : decode cX5_sides 126 = .ok (.return_, 1) := by decide +kernel
theorem dX5_isFlat_0 : decode cX5_isFlat 0 = .ok (.aload_n 0, 1) := by decide +kernel
theorem dX5_isFlat_1 : decode cX5_isFlat 1 = .ok (.getfield 56, 3) := by decide +kernel
theorem dX5_isFlat_4 : decode cX5_isFlat 4 = .ok (.iconst 4, 1) := by decide +kernel
theorem dX5_isFlat_5 : decode cX5_isFlat 5 = .ok (.iload_n 1, 1) := by decide +kernel
theorem dX5_isFlat_6 : decode cX5_isFlat 6 = .ok (.imul, 1) := by decide +kernel
theorem dX5_isFlat_7 : decode cX5_isFlat 7 = .ok (.iaload, 1) := by decide +kernel
theorem dX5_isFlat_8 : decode cX5_isFlat 8 = .ok (.aload_n 0, 1) := by decide +kernel
theorem dX5_isFlat_9 : decode cX5_isFlat 9 = .ok (.getfield 56, 3) := by decide +kernel
theorem dX5_isFlat_12 : decode cX5_isFlat 12 = .ok (.iconst 4, 1) := by decide +kernel
theorem dX5_isFlat_13 : decode cX5_isFlat 13 = .ok (.iload_n 1, 1) := by decide +kernel
theorem dX5_isFlat_14 : decode cX5_isFlat 14 = .ok (.imul, 1) := by decide +kernel
theorem dX5_isFlat_15 : decode cX5_isFlat 15 = .ok (.iconst 1, 1) := by decide +kernel
theorem dX5_isFlat_16 : decode cX5_isFlat 16 = .ok (.iadd, 1) := by decide +kernel
theorem dX5_isFlat_17 : decode cX5_isFlat 17 = .ok (.iaload, 1) := by decide +kernel
theorem dX5_isFlat_18 : decode cX5_isFlat 18 = .ok (.if_icmp .eq 26, 3) := by decide +kernel
theorem dX5_isFlat_21 : decode cX5_isFlat 21 = .ok (.aload_n 0, 1) := by decide +kernel
theorem dX5_isFlat_22 : decode cX5_isFlat 22 = .ok (.getfield 56, 3) := by decide +kernel
theorem dX5_isFlat_25 : decode cX5_isFlat 25 = .ok (.iconst 4, 1) := by decide +kernel
theorem dX5_isFlat_26 : decode cX5_isFlat 26 = .ok (.iload_n 1, 1) := by decide +kernel
theorem dX5_isFlat_27 : decode cX5_isFlat 27 = .ok (.imul, 1) := by decide +kernel
theorem dX5_isFlat_28 : decode cX5_isFlat 28 = .ok (.iconst 2, 1) := by decide +kernel
theorem dX5_isFlat_29 : decode cX5_isFlat 29 = .ok (.iadd, 1) := by decide +kernel
theorem dX5_isFlat_30 : decode cX5_isFlat 30 = .ok (.iaload, 1) := by decide +kernel
theorem dX5_isFlat_31 : decode cX5_isFlat 31 = .ok (.aload_n 0, 1) := by decide +kernel
theorem dX5_isFlat_32 : decode cX5_isFlat 32 = .ok (.getfield 56, 3) := by decide +kernel
theorem dX5_isFlat_35 : decode cX5_isFlat 35 = .ok (.iconst 4, 1) := by decide +kernel
theorem dX5_isFlat_36 : decode cX5_isFlat 36 = .ok (.iload_n 1, 1) := by decide +kernel
theorem dX5_isFlat_37 : decode cX5_isFlat 37 = .ok (.imul, 1) := by decide +kernel
theorem dX5_isFlat_38 : decode cX5_isFlat 38 = .ok (.iconst 3, 1) := by decide +kernel
theorem dX5_isFlat_39 : decode cX5_isFlat 39 = .ok (.iadd, 1) := by decide +kernel
theorem dX5_isFlat_40 : decode cX5_isFlat 40 = .ok (.iaload, 1) := by decide +kernel
theorem dX5_isFlat_41 : decode cX5_isFlat 41 = .ok (.if_icmp .ne 7, 3) := by decide +kernel
theorem dX5_isFlat_44 : decode cX5_isFlat 44 = .ok (.iconst 1, 1) := by decide +kernel
theorem dX5_isFlat_45 : decode cX5_isFlat 45 = .ok (.goto 4, 3) := by decide +kernel
theorem dX5_isFlat_48 : decode cX5_isFlat 48 = .ok (.iconst 0, 1) := by decide +kernel
theorem dX5_isFlat_49 : decode cX5_isFlat 49 = .ok (.ireturn, 1) := by decide +kernel
theorem dX5_lies_0 : decode cX5_lies 0 = .ok (.aload_n 0, 1) := by decide +kernel
theorem dX5_lies_1 : decode cX5_lies 1 = .ok (.getfield 56, 3) := by decide +kernel
theorem dX5_lies_4 : decode cX5_lies 4 = .ok (.iconst 4, 1) := by decide +kernel
theorem dX5_lies_5 : decode cX5_lies 5 = .ok (.iload_n 1, 1) := by decide +kernel
theorem dX5_lies_6 : decode cX5_lies 6 = .ok (.imul, 1) := by decide +kernel
theorem dX5_lies_7 : decode cX5_lies 7 = .ok (.iaload, 1) := by decide +kernel
theorem dX5_lies_8 : decode cX5_lies 8 = .ok (.aload_n 0, 1) := by decide +kernel
theorem dX5_lies_9 : decode cX5_lies 9 = .ok (.getfield 56, 3) := by decide +kernel
theorem dX5_lies_12 : decode cX5_lies 12 = .ok (.iconst 4, 1) := by decide +kernel
theorem dX5_lies_13 : decode cX5_lies 13 = .ok (.iload_n 2, 1) := by decide +kernel
theorem dX5_lies_14 : decode cX5_lies 14 = .ok (.imul, 1) := by decide +kernel
theorem dX5_lies_15 : decode cX5_lies 15 = .ok (.iaload, 1) := by decide +kernel
theorem dX5_lies_16 : decode cX5_lies 16 = .ok (.if_icmp .lt 76, 3) := by decide +kernel
theorem dX5_lies_19 : decode cX5_lies 19 = .ok (.aload_n 0, 1) := by decide +kernel
theorem dX5_lies_20 : decode cX5_lies 20 = .ok (.getfield 56, 3) := by decide +kernel
theorem dX5_lies_23 : decode cX5_lies 23 = .ok (.iconst 4, 1) := by decide +kernel
theorem dX5_lies_24 : decode cX5_lies 24 = .ok (.iload_n 1, 1) := by decide +kernel
theorem dX5_lies_25 : decode cX5_lies 25 = .ok (.imul, 1) := by decide +kernel
theorem dX5_lies_26 : decode cX5_lies 26 = .ok (.iconst 1, 1) := by decide +kernel
theorem dX5_lies_27 : decode cX5_lies 27 = .ok (.iadd, 1) := by decide +kernel
theorem dX5_lies_28 : decode cX5_lies 28 = .ok (.iaload, 1) := by decide +kernel
theorem dX5_lies_29 : decode cX5_lies 29 = .ok (.aload_n 0, 1) := by decide +kernel
theorem dX5_lies_30 : decode cX5_lies 30 = .ok (.getfield 56, 3) := by decide +kernel
theorem dX5_lies_33 : decode cX5_lies 33 = .ok (.iconst 4, 1) := by decide +kernel
theorem dX5_lies_34 : decode cX5_lies 34 = .ok (.iload_n 2, 1) := by decide +kernel
theorem dX5_lies_35 : decode cX5_lies 35 = .ok (.imul, 1) := by decide +kernel
theorem dX5_lies_36 : decode cX5_lies 36 = .ok (.iconst 1, 1) := by decide +kernel
theorem dX5_lies_37 : decode cX5_lies 37 = .ok (.iadd, 1) := by decide +kernel
theorem dX5_lies_38 : decode cX5_lies 38 = .ok (.iaload, 1) := by decide +kernel
theorem dX5_lies_39 : decode cX5_lies 39 = .ok (.if_icmp .gt 53, 3) := by decide +kernel
theorem dX5_lies_42 : decode cX5_lies 42 = .ok (.aload_n 0, 1) := by decide +kernel
theorem dX5_lies_43 : decode cX5_lies 43 = .ok (.getfield 56, 3) := by decide +kernel
theorem dX5_lies_46 : decode cX5_lies 46 = .ok (.iconst 4, 1) := by decide +kernel
theorem dX5_lies_47 : decode cX5_lies 47 = .ok (.iload_n 1, 1) := by decide +kernel
theorem dX5_lies_48 : decode cX5_lies 48 = .ok (.imul, 1) := by decide +kernel
theorem dX5_lies_49 : decode cX5_lies 49 = .ok (.iconst 2, 1) := by decide +kernel
theorem dX5_lies_50 : decode cX5_lies 50 = .ok (.iadd, 1) := by decide +kernel
theorem dX5_lies_51 : decode cX5_lies 51 = .ok (.iaload, 1) := by decide +kernel
theorem dX5_lies_52 : decode cX5_lies 52 = .ok (.aload_n 0, 1) := by decide +kernel
theorem dX5_lies_53 : decode cX5_lies 53 = .ok (.getfield 56, 3) := by decide +kernel
theorem dX5_lies_56 : decode cX5_lies 56 = .ok (.iconst 4, 1) := by decide +kernel
theorem dX5_lies_57 : decode cX5_lies 57 = .ok (.iload_n 2, 1) := by decide +kernel
theorem dX5_lies_58 : decode cX5_lies 58 = .ok (.imul, 1) := by decide +kernel
theorem dX5_lies_59 : decode cX5_lies 59 = .ok (.iconst 2, 1) := by decide +kernel
theorem dX5_lies_60 : decode cX5_lies 60 = .ok (.iadd, 1) := by decide +kernel
theorem dX5_lies_61 : decode cX5_lies 61 = .ok (.iaload, 1) := by decide +kernel
theorem dX5_lies_62 : decode cX5_lies 62 = .ok (.if_icmp .lt 30, 3) := by decide +kernel
theorem dX5_lies_65 : decode cX5_lies 65 = .ok (.aload_n 0, 1) := by decide +kernel
theorem dX5_lies_66 : decode cX5_lies 66 = .ok (.getfield 56, 3) := by decide +kernel
theorem dX5_lies_69 : decode cX5_lies 69 = .ok (.iconst 4, 1) := by decide +kernel
theorem dX5_lies_70 : decode cX5_lies 70 = .ok (.iload_n 1, 1) := by decide +kernel
theorem dX5_lies_71 : decode cX5_lies 71 = .ok (.imul, 1) := by decide +kernel
theorem dX5_lies_72 : decode cX5_lies 72 = .ok (.iconst 3, 1) := by decide +kernel
theorem dX5_lies_73 : decode cX5_lies 73 = .ok (.iadd, 1) := by decide +kernel
theorem dX5_lies_74 : decode cX5_lies 74 = .ok (.iaload, 1) := by decide +kernel
theorem dX5_lies_75 : decode cX5_lies 75 = .ok (.aload_n 0, 1) := by decide +kernel
theorem dX5_lies_76 : decode cX5_lies 76 = .ok (.getfield 56, 3) := by decide +kernel
theorem dX5_lies_79 : decode cX5_lies 79 = .ok (.iconst 4, 1) := by decide +kernel
theorem dX5_lies_80 : decode cX5_lies 80 = .ok (.iload_n 2, 1) := by decide +kernel
theorem dX5_lies_81 : decode cX5_lies 81 = .ok (.imul, 1) := by decide +kernel
theorem dX5_lies_82 : decode cX5_lies 82 = .ok (.iconst 3, 1) := by decide +kernel
theorem dX5_lies_83 : decode cX5_lies 83 = .ok (.iadd, 1) := by decide +kernel
theorem dX5_lies_84 : decode cX5_lies 84 = .ok (.iaload, 1) := by decide +kernel
theorem dX5_lies_85 : decode cX5_lies 85 = .ok (.if_icmp .gt 7, 3) := by decide +kernel
theorem dX5_lies_88 : decode cX5_lies 88 = .ok (.iconst 1, 1) := by decide +kernel
theorem dX5_lies_89 : decode cX5_lies 89 = .ok (.goto 4, 3) := by decide +kernel
theorem dX5_lies_92 : decode cX5_lies 92 = .ok (.iconst 0, 1) := by decide +kernel
theorem dX5_lies_93 : decode cX5_lies 93 = .ok (.ireturn, 1) := by decide +kernel
theorem dX5_builds_0 : decode cX5_builds 0 = .ok (.aload_n 0, 1) := by decide +kernel
theorem dX5_builds_1 : decode cX5_builds 1 = .ok (.invokevirtual 110, 3) := by decide +kernel
theorem dX5_builds_4 : decode cX5_builds 4 = .ok (.aload_n 0, 1) := by decide +kernel
theorem dX5_builds_5 : decode cX5_builds 5 = .ok (.getfield 117, 3) := by decide +kernel
theorem dX5_builds_8 : decode cX5_builds 8 = .ok (.ifCond .eq 17, 3) := by decide +kernel
theorem dX5_builds_11 : decode cX5_builds 11 = .ok (.aload_n 0, 1) := by decide +kernel
theorem dX5_builds_12 : decode cX5_builds 12 = .ok (.bipush 8, 2) := by decide +kernel
theorem dX5_builds_14 : decode cX5_builds 14 = .ok (.aload_n 0, 1) := by decide +kernel
theorem dX5_builds_15 : decode cX5_builds 15 = .ok (.getfield 121, 3) := by decide +kernel
theorem dX5_builds_18 : decode cX5_builds 18 = .ok (.aload_n 0, 1) := by decide +kernel
theorem dX5_builds_19 : decode cX5_builds 19 = .ok (.getfield 124, 3) := by decide +kernel
theorem dX5_builds_22 : decode cX5_builds 22 = .ok (.invokevirtual 127, 3) := by decide +kernel
theorem dX5_builds_25 : decode cX5_builds 25 = .ok (.aload_n 0, 1) := by decide +kernel
theorem dX5_builds_26 : decode cX5_builds 26 = .ok (.getfield 62, 3) := by decide +kernel
theorem dX5_builds_29 : decode cX5_builds 29 = .ok (.bipush 8, 2) := by decide +kernel
theorem dX5_builds_31 : decode cX5_builds 31 = .ok (.aload_n 0, 1) := by decide +kernel
theorem dX5_builds_32 : decode cX5_builds 32 = .ok (.getfield 117, 3) := by decide +kernel
theorem dX5_builds_35 : decode cX5_builds 35 = .ok (.ifCond .eq 12, 3) := by decide +kernel
theorem dX5_builds_38 : decode cX5_builds 38 = .ok (.aload_n 0, 1) := by decide +kernel
theorem dX5_builds_39 : decode cX5_builds 39 = .ok (.bipush 8, 2) := by decide +kernel
theorem dX5_builds_41 : decode cX5_builds 41 = .ok (.invokevirtual 131, 3) := by decide +kernel
theorem dX5_builds_44 : decode cX5_builds 44 = .ok (.ifCond .eq 7, 3) := by decide +kernel
theorem dX5_builds_47 : decode cX5_builds 47 = .ok (.iconst 1, 1) := by decide +kernel
theorem dX5_builds_48 : decode cX5_builds 48 = .ok (.goto 4, 3) := by decide +kernel
theorem dX5_builds_51 : decode cX5_builds 51 = .ok (.iconst 0, 1) := by decide +kernel
theorem dX5_builds_52 : decode cX5_builds 52 = .ok (.bastore, 1) := by decide +kernel
theorem dX5_builds_53 : decode cX5_builds 53 = .ok (.iconst 0, 1) := by decide +kernel
theorem dX5_builds_54 : decode cX5_builds 54 = .ok (.istore_n 1, 1) := by decide +kernel
theorem dX5_builds_55 : decode cX5_builds 55 = .ok (.iload_n 1, 1) := by decide +kernel
theorem dX5_builds_56 : decode cX5_builds 56 = .ok (.aload_n 0, 1) := by decide +kernel
theorem dX5_builds_57 : decode cX5_builds 57 = .ok (.getfield 134, 3) := by decide +kernel
theorem dX5_builds_60 : decode cX5_builds 60 = .ok (.if_icmp .ge 134, 3) := by decide +kernel
theorem dX5_builds_63 : decode cX5_builds 63 = .ok (.aload_n 0, 1) := by decide +kernel
theorem dX5_builds_64 : decode cX5_builds 64 = .ok (.getfield 53, 3) := by decide +kernel
theorem dX5_builds_67 : decode cX5_builds 67 = .ok (.iload_n 1, 1) := by decide +kernel
theorem dX5_builds_68 : decode cX5_builds 68 = .ok (.iaload, 1) := by decide +kernel
theorem dX5_builds_69 : decode cX5_builds 69 = .ok (.iconst (-1), 1) := by decide +kernel
theorem dX5_builds_70 : decode cX5_builds 70 = .ok (.if_icmp .ne 8, 3) := by decide +kernel
theorem dX5_builds_73 : decode cX5_builds 73 = .ok (.bipush 8, 2) := by decide +kernel
theorem dX5_builds_75 : decode cX5_builds 75 = .ok (.goto 9, 3) := by decide +kernel
theorem dX5_builds_78 : decode cX5_builds 78 = .ok (.aload_n 0, 1) := by decide +kernel
theorem dX5_builds_79 : decode cX5_builds 79 = .ok (.getfield 53, 3) := by decide +kernel
theorem dX5_builds_82 : decode cX5_builds 82 = .ok (.iload_n 1, 1) := by decide +kernel
theorem dX5_builds_83 : decode cX5_builds 83 = .ok (.iaload, 1) := by decide +kernel
theorem dX5_builds_84 : decode cX5_builds 84 = .ok (.istore_n 2, 1) := by decide +kernel
theorem dX5_builds_85 : decode cX5_builds 85 = .ok (.aload_n 0, 1) := by decide +kernel
theorem dX5_builds_86 : decode cX5_builds 86 = .ok (.iload_n 1, 1) := by decide +kernel
theorem dX5_builds_87 : decode cX5_builds 87 = .ok (.aload_n 0, 1) := by decide +kernel
theorem dX5_builds_88 : decode cX5_builds 88 = .ok (.getfield 44, 3) := by decide +kernel
theorem dX5_builds_91 : decode cX5_builds 91 = .ok (.iload_n 1, 1) := by decide +kernel
theorem dX5_builds_92 : decode cX5_builds 92 = .ok (.iaload, 1) := by decide +kernel
theorem dX5_builds_93 : decode cX5_builds 93 = .ok (.aload_n 0, 1) := by decide +kernel
theorem dX5_builds_94 : decode cX5_builds 94 = .ok (.getfield 47, 3) := by decide +kernel
theorem dX5_builds_97 : decode cX5_builds 97 = .ok (.iload_n 1, 1) := by decide +kernel
theorem dX5_builds_98 : decode cX5_builds 98 = .ok (.iaload, 1) := by decide +kernel
theorem dX5_builds_99 : decode cX5_builds 99 = .ok (.invokevirtual 127, 3) := by decide +kernel
theorem dX5_builds_102 : decode cX5_builds 102 = .ok (.aload_n 0, 1) := by decide +kernel
theorem dX5_builds_103 : decode cX5_builds 103 = .ok (.getfield 59, 3) := by decide +kernel
theorem dX5_builds_106 : decode cX5_builds 106 = .ok (.iload_n 1, 1) := by decide +kernel
theorem dX5_builds_107 : decode cX5_builds 107 = .ok (.iload_n 2, 1) := by decide +kernel
theorem dX5_builds_108 : decode cX5_builds 108 = .ok (.bipush 8, 2) := by decide +kernel
theorem dX5_builds_110 : decode cX5_builds 110 = .ok (.if_icmp .ne 7, 3) := by decide +kernel
theorem dX5_builds_113 : decode cX5_builds 113 = .ok (.iconst 0, 1) := by decide +kernel
theorem dX5_builds_114 : decode cX5_builds 114 = .ok (.goto 16, 3) := by decide +kernel
theorem dX5_builds_117 : decode cX5_builds 117 = .ok (.aload_n 0, 1) := by decide +kernel
theorem dX5_builds_118 : decode cX5_builds 118 = .ok (.getfield 59, 3) := by decide +kernel
theorem dX5_builds_121 : decode cX5_builds 121 = .ok (.iload_n 2, 1) := by decide +kernel
theorem dX5_builds_122 : decode cX5_builds 122 = .ok (.iaload, 1) := by decide +kernel
theorem dX5_builds_123 : decode cX5_builds 123 = .ok (.aload_n 0, 1) := by decide +kernel
theorem dX5_builds_124 : decode cX5_builds 124 = .ok (.getfield 50, 3) := by decide +kernel
theorem dX5_builds_127 : decode cX5_builds 127 = .ok (.iload_n 2, 1) := by decide +kernel
theorem dX5_builds_128 : decode cX5_builds 128 = .ok (.iaload, 1) := by decide +kernel
theorem dX5_builds_129 : decode cX5_builds 129 = .ok (.iadd, 1) := by decide +kernel
theorem dX5_builds_130 : decode cX5_builds 130 = .ok (.iastore, 1) := by decide +kernel
theorem dX5_builds_131 : decode cX5_builds 131 = .ok (.aload_n 0, 1) := by decide +kernel
theorem dX5_builds_132 : decode cX5_builds 132 = .ok (.getfield 62, 3) := by decide +kernel
theorem dX5_builds_135 : decode cX5_builds 135 = .ok (.iload_n 1, 1) := by decide +kernel
theorem dX5_builds_136 : decode cX5_builds 136 = .ok (.aload_n 0, 1) := by decide +kernel
theorem dX5_builds_137 : decode cX5_builds 137 = .ok (.iload_n 1, 1) := by decide +kernel
theorem dX5_builds_138 : decode cX5_builds 138 = .ok (.invokevirtual 131, 3) := by decide +kernel
theorem dX5_builds_141 : decode cX5_builds 141 = .ok (.ifCond .ne 41, 3) := by decide +kernel
theorem dX5_builds_144 : decode cX5_builds 144 = .ok (.aload_n 0, 1) := by decide +kernel
theorem dX5_builds_145 : decode cX5_builds 145 = .ok (.getfield 62, 3) := by decide +kernel
theorem dX5_builds_148 : decode cX5_builds 148 = .ok (.iload_n 2, 1) := by decide +kernel
theorem dX5_builds_149 : decode cX5_builds 149 = .ok (.baload, 1) := by decide +kernel
theorem dX5_builds_150 : decode cX5_builds 150 = .ok (.ifCond .ne 32, 3) := by decide +kernel
theorem dX5_builds_153 : decode cX5_builds 153 = .ok (.aload_n 0, 1) := by decide +kernel
theorem dX5_builds_154 : decode cX5_builds 154 = .ok (.iload_n 1, 1) := by decide +kernel
theorem dX5_builds_155 : decode cX5_builds 155 = .ok (.iload_n 2, 1) := by decide +kernel
theorem dX5_builds_156 : decode cX5_builds 156 = .ok (.invokevirtual 137, 3) := by decide +kernel
theorem dX5_builds_159 : decode cX5_builds 159 = .ok (.ifCond .eq 23, 3) := by decide +kernel
theorem dX5_builds_162 : decode cX5_builds 162 = .ok (.aload_n 0, 1) := by decide +kernel
theorem dX5_builds_163 : decode cX5_builds 163 = .ok (.getfield 59, 3) := by decide +kernel
theorem dX5_builds_166 : decode cX5_builds 166 = .ok (.iload_n 1, 1) := by decide +kernel
theorem dX5_builds_167 : decode cX5_builds 167 = .ok (.iaload, 1) := by decide +kernel
theorem dX5_builds_168 : decode cX5_builds 168 = .ok (.aload_n 0, 1) := by decide +kernel
theorem dX5_builds_169 : decode cX5_builds 169 = .ok (.getfield 50, 3) := by decide +kernel
theorem dX5_builds_172 : decode cX5_builds 172 = .ok (.iload_n 1, 1) := by decide +kernel
theorem dX5_builds_173 : decode cX5_builds 173 = .ok (.iaload, 1) := by decide +kernel
theorem dX5_builds_174 : decode cX5_builds 174 = .ok (.iadd, 1) := by decide +kernel
theorem dX5_builds_175 : decode cX5_builds 175 = .ok (.aload_n 0, 1) := by decide +kernel
theorem dX5_builds_176 : decode cX5_builds 176 = .ok (.getfield 141, 3) := by decide +kernel
theorem dX5_builds_179 : decode cX5_builds 179 = .ok (.if_icmp .lt 7, 3) := by decide +kernel
theorem dX5_builds_182 : decode cX5_builds 182 = .ok (.iconst 1, 1) := by decide +kernel
theorem dX5_builds_183 : decode cX5_builds 183 = .ok (.goto 4, 3) := by decide +kernel
theorem dX5_builds_186 : decode cX5_builds 186 = .ok (.iconst 0, 1) := by decide +kernel
theorem dX5_builds_187 : decode cX5_builds 187 = .ok (.bastore, 1) := by decide +kernel
theorem dX5_builds_188 : decode cX5_builds 188 = .ok (.iinc 1 1, 3) := by decide +kernel
theorem dX5_builds_191 : decode cX5_builds 191 = .ok (.goto (-136), 3) := by decide +kernel
theorem dX5_builds_194 : decode cX5_builds 194 = .ok (.return_, 1) := by decide +kernel
theorem dX5_setBase_0 : decode cX5_setBase 0 = .ok (.aload_n 0, 1) := by decide +kernel
theorem dX5_setBase_1 : decode cX5_setBase 1 = .ok (.aload_n 0, 1) := by decide +kernel
theorem dX5_setBase_2 : decode cX5_setBase 2 = .ok (.iload_n 1, 1) := by decide +kernel
theorem dX5_setBase_3 : decode cX5_setBase 3 = .ok (.invokevirtual 104, 3) := by decide +kernel
theorem dX5_setBase_6 : decode cX5_setBase 6 = .ok (.ifCond .eq 11, 3) := by decide +kernel
theorem dX5_setBase_9 : decode cX5_setBase 9 = .ok (.aload_n 0, 1) := by decide +kernel
theorem dX5_setBase_10 : decode cX5_setBase 10 = .ok (.iload_n 2, 1) := by decide +kernel
theorem dX5_setBase_11 : decode cX5_setBase 11 = .ok (.invokevirtual 104, 3) := by decide +kernel
theorem dX5_setBase_14 : decode cX5_setBase 14 = .ok (.ifCond .ne 7, 3) := by decide +kernel
theorem dX5_setBase_17 : decode cX5_setBase 17 = .ok (.iconst 1, 1) := by decide +kernel
theorem dX5_setBase_18 : decode cX5_setBase 18 = .ok (.goto 18, 3) := by decide +kernel
theorem dX5_setBase_21 : decode cX5_setBase 21 = .ok (.iload_n 3, 1) := by decide +kernel
theorem dX5_setBase_22 : decode cX5_setBase 22 = .ok (.iconst 1, 1) := by decide +kernel
theorem dX5_setBase_23 : decode cX5_setBase 23 = .ok (.bipush 50, 2) := by decide +kernel
theorem dX5_setBase_25 : decode cX5_setBase 25 = .ok (.invokestatic 78, 3) := by decide +kernel
theorem dX5_setBase_28 : decode cX5_setBase 28 = .ok (.ifCond .eq 7, 3) := by decide +kernel
theorem dX5_setBase_31 : decode cX5_setBase 31 = .ok (.iconst 0, 1) := by decide +kernel
theorem dX5_setBase_32 : decode cX5_setBase 32 = .ok (.goto 4, 3) := by decide +kernel
theorem dX5_setBase_35 : decode cX5_setBase 35 = .ok (.iconst 2, 1) := by decide +kernel
theorem dX5_setBase_36 : decode cX5_setBase 36 = .ok (.putfield 74, 3) := by decide +kernel
theorem dX5_setBase_39 : decode cX5_setBase 39 = .ok (.aload_n 0, 1) := by decide +kernel
theorem dX5_setBase_40 : decode cX5_setBase 40 = .ok (.getfield 74, 3) := by decide +kernel
theorem dX5_setBase_43 : decode cX5_setBase 43 = .ok (.ifCond .le 5, 3) := by decide +kernel
theorem dX5_setBase_46 : decode cX5_setBase 46 = .ok (.iconst 0, 1) := by decide +kernel
theorem dX5_setBase_47 : decode cX5_setBase 47 = .ok (.ireturn, 1) := by decide +kernel
theorem dX5_setBase_48 : decode cX5_setBase 48 = .ok (.aload_n 0, 1) := by decide +kernel
theorem dX5_setBase_49 : decode cX5_setBase 49 = .ok (.iconst 1, 1) := by decide +kernel
theorem dX5_setBase_50 : decode cX5_setBase 50 = .ok (.putfield 117, 3) := by decide +kernel
theorem dX5_setBase_53 : decode cX5_setBase 53 = .ok (.aload_n 0, 1) := by decide +kernel
theorem dX5_setBase_54 : decode cX5_setBase 54 = .ok (.iload_n 1, 1) := by decide +kernel
theorem dX5_setBase_55 : decode cX5_setBase 55 = .ok (.putfield 121, 3) := by decide +kernel
theorem dX5_setBase_58 : decode cX5_setBase 58 = .ok (.aload_n 0, 1) := by decide +kernel
theorem dX5_setBase_59 : decode cX5_setBase 59 = .ok (.iload_n 2, 1) := by decide +kernel
theorem dX5_setBase_60 : decode cX5_setBase 60 = .ok (.putfield 124, 3) := by decide +kernel
theorem dX5_setBase_63 : decode cX5_setBase 63 = .ok (.aload_n 0, 1) := by decide +kernel
theorem dX5_setBase_64 : decode cX5_setBase 64 = .ok (.iload_n 3, 1) := by decide +kernel
theorem dX5_setBase_65 : decode cX5_setBase 65 = .ok (.putfield 141, 3) := by decide +kernel
theorem dX5_setBase_68 : decode cX5_setBase 68 = .ok (.aload_n 0, 1) := by decide +kernel
theorem dX5_setBase_69 : decode cX5_setBase 69 = .ok (.invokevirtual 144, 3) := by decide +kernel
theorem dX5_setBase_72 : decode cX5_setBase 72 = .ok (.aload_n 0, 1) := by decide +kernel
theorem dX5_setBase_73 : decode cX5_setBase 73 = .ok (.getfield 62, 3) := by decide +kernel
theorem dX5_setBase_76 : decode cX5_setBase 76 = .ok (.bipush 8, 2) := by decide +kernel
theorem dX5_setBase_78 : decode cX5_setBase 78 = .ok (.baload, 1) := by decide +kernel
theorem dX5_setBase_79 : decode cX5_setBase 79 = .ok (.ifCond .ne 7, 3) := by decide +kernel
theorem dX5_setBase_82 : decode cX5_setBase 82 = .ok (.iconst 1, 1) := by decide +kernel
theorem dX5_setBase_83 : decode cX5_setBase 83 = .ok (.goto 4, 3) := by decide +kernel
theorem dX5_setBase_86 : decode cX5_setBase 86 = .ok (.iconst 0, 1) := by decide +kernel
theorem dX5_setBase_87 : decode cX5_setBase 87 = .ok (.ireturn, 1) := by decide +kernel
theorem dX5_pocket_0 : decode cX5_pocket 0 = .ok (.aload_n 0, 1) := by decide +kernel
theorem dX5_pocket_1 : decode cX5_pocket 1 = .ok (.iconst 0, 1) := by decide +kernel
theorem dX5_pocket_2 : decode cX5_pocket 2 = .ok (.putfield 74, 3) := by decide +kernel
theorem dX5_pocket_5 : decode cX5_pocket 5 = .ok (.aload_n 0, 1) := by decide +kernel
theorem dX5_pocket_6 : decode cX5_pocket 6 = .ok (.iload_n 1, 1) := by decide +kernel
theorem dX5_pocket_7 : decode cX5_pocket 7 = .ok (.invokevirtual 104, 3) := by decide +kernel
theorem dX5_pocket_10 : decode cX5_pocket 10 = .ok (.ifCond .eq 26, 3) := by decide +kernel
theorem dX5_pocket_13 : decode cX5_pocket 13 = .ok (.aload_n 0, 1) := by decide +kernel
theorem dX5_pocket_14 : decode cX5_pocket 14 = .ok (.iload_n 2, 1) := by decide +kernel
theorem dX5_pocket_15 : decode cX5_pocket 15 = .ok (.invokevirtual 104, 3) := by decide +kernel
theorem dX5_pocket_18 : decode cX5_pocket 18 = .ok (.ifCond .eq 18, 3) := by decide +kernel
theorem dX5_pocket_21 : decode cX5_pocket 21 = .ok (.iload 4, 2) := by decide +kernel
theorem dX5_pocket_23 : decode cX5_pocket 23 = .ok (.iconst (-1), 1) := by decide +kernel
theorem dX5_pocket_24 : decode cX5_pocket 24 = .ok (.aload_n 0, 1) := by decide +kernel
theorem dX5_pocket_25 : decode cX5_pocket 25 = .ok (.getfield 134, 3) := by decide +kernel
theorem dX5_pocket_28 : decode cX5_pocket 28 = .ok (.iconst 1, 1) := by decide +kernel
theorem dX5_pocket_29 : decode cX5_pocket 29 = .ok (.isub, 1) := by decide +kernel
theorem dX5_pocket_30 : decode cX5_pocket 30 = .ok (.invokestatic 78, 3) := by decide +kernel
theorem dX5_pocket_33 : decode cX5_pocket 33 = .ok (.ifCond .ne 9, 3) := by decide +kernel
theorem dX5_pocket_36 : decode cX5_pocket 36 = .ok (.aload_n 0, 1) := by decide +kernel
theorem dX5_pocket_37 : decode cX5_pocket 37 = .ok (.iconst 1, 1) := by decide +kernel
theorem dX5_pocket_38 : decode cX5_pocket 38 = .ok (.invokevirtual 100, 3) := by decide +kernel
theorem dX5_pocket_41 : decode cX5_pocket 41 = .ok (.ireturn, 1) := by decide +kernel
theorem dX5_pocket_42 : decode cX5_pocket 42 = .ok (.iload_n 3, 1) := by decide +kernel
theorem dX5_pocket_43 : decode cX5_pocket 43 = .ok (.iconst 1, 1) := by decide +kernel
theorem dX5_pocket_44 : decode cX5_pocket 44 = .ok (.bipush 50, 2) := by decide +kernel
theorem dX5_pocket_46 : decode cX5_pocket 46 = .ok (.invokestatic 78, 3) := by decide +kernel
theorem dX5_pocket_49 : decode cX5_pocket 49 = .ok (.ifCond .ne 9, 3) := by decide +kernel
theorem dX5_pocket_52 : decode cX5_pocket 52 = .ok (.aload_n 0, 1) := by decide +kernel
theorem dX5_pocket_53 : decode cX5_pocket 53 = .ok (.iconst 2, 1) := by decide +kernel
theorem dX5_pocket_54 : decode cX5_pocket 54 = .ok (.invokevirtual 100, 3) := by decide +kernel
theorem dX5_pocket_57 : decode cX5_pocket 57 = .ok (.ireturn, 1) := by decide +kernel
theorem dX5_pocket_58 : decode cX5_pocket 58 = .ok (.aload_n 0, 1) := by decide +kernel
theorem dX5_pocket_59 : decode cX5_pocket 59 = .ok (.getfield 117, 3) := by decide +kernel
theorem dX5_pocket_62 : decode cX5_pocket 62 = .ok (.ifCond .eq 12, 3) := by decide +kernel
theorem dX5_pocket_65 : decode cX5_pocket 65 = .ok (.aload_n 0, 1) := by decide +kernel
theorem dX5_pocket_66 : decode cX5_pocket 66 = .ok (.getfield 134, 3) := by decide +kernel
theorem dX5_pocket_69 : decode cX5_pocket 69 = .ok (.bipush 8, 2) := by decide +kernel
theorem dX5_pocket_71 : decode cX5_pocket 71 = .ok (.if_icmp .ne 9, 3) := by decide +kernel
theorem dX5_pocket_74 : decode cX5_pocket 74 = .ok (.aload_n 0, 1) := by decide +kernel
theorem dX5_pocket_75 : decode cX5_pocket 75 = .ok (.iconst 3, 1) := by decide +kernel
theorem dX5_pocket_76 : decode cX5_pocket 76 = .ok (.invokevirtual 100, 3) := by decide +kernel
theorem dX5_pocket_79 : decode cX5_pocket 79 = .ok (.ireturn, 1) := by decide +kernel
theorem dX5_pocket_80 : decode cX5_pocket 80 = .ok (.aload_n 0, 1) := by decide +kernel
theorem dX5_pocket_81 : decode cX5_pocket 81 = .ok (.getfield 44, 3) := by decide +kernel
theorem dX5_pocket_84 : decode cX5_pocket 84 = .ok (.aload_n 0, 1) := by decide +kernel
theorem dX5_pocket_85 : decode cX5_pocket 85 = .ok (.getfield 134, 3) := by decide +kernel
theorem dX5_pocket_88 : decode cX5_pocket 88 = .ok (.iload_n 1, 1) := by decide +kernel
theorem dX5_pocket_89 : decode cX5_pocket 89 = .ok (.iastore, 1) := by decide +kernel
theorem dX5_pocket_90 : decode cX5_pocket 90 = .ok (.aload_n 0, 1) := by decide +kernel
theorem dX5_pocket_91 : decode cX5_pocket 91 = .ok (.getfield 47, 3) := by decide +kernel
theorem dX5_pocket_94 : decode cX5_pocket 94 = .ok (.aload_n 0, 1) := by decide +kernel
theorem dX5_pocket_95 : decode cX5_pocket 95 = .ok (.getfield 134, 3) := by decide +kernel
theorem dX5_pocket_98 : decode cX5_pocket 98 = .ok (.iload_n 2, 1) := by decide +kernel
theorem dX5_pocket_99 : decode cX5_pocket 99 = .ok (.iastore, 1) := by decide +kernel
theorem dX5_pocket_100 : decode cX5_pocket 100 = .ok (.aload_n 0, 1) := by decide +kernel
theorem dX5_pocket_101 : decode cX5_pocket 101 = .ok (.getfield 50, 3) := by decide +kernel
theorem dX5_pocket_104 : decode cX5_pocket 104 = .ok (.aload_n 0, 1) := by decide +kernel
theorem dX5_pocket_105 : decode cX5_pocket 105 = .ok (.getfield 134, 3) := by decide +kernel
theorem dX5_pocket_108 : decode cX5_pocket 108 = .ok (.iload_n 3, 1) := by decide +kernel
theorem dX5_pocket_109 : decode cX5_pocket 109 = .ok (.iastore, 1) := by decide +kernel
theorem dX5_pocket_110 : decode cX5_pocket 110 = .ok (.aload_n 0, 1) := by decide +kernel
theorem dX5_pocket_111 : decode cX5_pocket 111 = .ok (.getfield 53, 3) := by decide +kernel
theorem dX5_pocket_114 : decode cX5_pocket 114 = .ok (.aload_n 0, 1) := by decide +kernel
theorem dX5_pocket_115 : decode cX5_pocket 115 = .ok (.getfield 134, 3) := by decide +kernel
theorem dX5_pocket_118 : decode cX5_pocket 118 = .ok (.iload 4, 2) := by decide +kernel
theorem dX5_pocket_120 : decode cX5_pocket 120 = .ok (.iastore, 1) := by decide +kernel
theorem dX5_pocket_121 : decode cX5_pocket 121 = .ok (.aload_n 0, 1) := by decide +kernel
theorem dX5_pocket_122 : decode cX5_pocket 122 = .ok (.dup, 1) := by decide +kernel
theorem dX5_pocket_123 : decode cX5_pocket 123 = .ok (.getfield 134, 3) := by decide +kernel
theorem dX5_pocket_126 : decode cX5_pocket 126 = .ok (.iconst 1, 1) := by decide +kernel
theorem dX5_pocket_127 : decode cX5_pocket 127 = .ok (.iadd, 1) := by decide +kernel
theorem dX5_pocket_128 : decode cX5_pocket 128 = .ok (.putfield 134, 3) := by decide +kernel
theorem dX5_pocket_131 : decode cX5_pocket 131 = .ok (.aload_n 0, 1) := by decide +kernel
theorem dX5_pocket_132 : decode cX5_pocket 132 = .ok (.getfield 134, 3) := by decide +kernel
theorem dX5_pocket_135 : decode cX5_pocket 135 = .ok (.iconst 1, 1) := by decide +kernel
theorem dX5_pocket_136 : decode cX5_pocket 136 = .ok (.isub, 1) := by decide +kernel
theorem dX5_pocket_137 : decode cX5_pocket 137 = .ok (.ireturn, 1) := by decide +kernel
theorem dX5_fails_0 : decode cX5_fails 0 = .ok (.aload_n 0, 1) := by decide +kernel
theorem dX5_fails_1 : decode cX5_fails 1 = .ok (.iload_n 1, 1) := by decide +kernel
theorem dX5_fails_2 : decode cX5_fails 2 = .ok (.iconst 0, 1) := by decide +kernel
theorem dX5_fails_3 : decode cX5_fails 3 = .ok (.aload_n 0, 1) := by decide +kernel
theorem dX5_fails_4 : decode cX5_fails 4 = .ok (.getfield 134, 3) := by decide +kernel
theorem dX5_fails_7 : decode cX5_fails 7 = .ok (.iconst 1, 1) := by decide +kernel
theorem dX5_fails_8 : decode cX5_fails 8 = .ok (.isub, 1) := by decide +kernel
theorem dX5_fails_9 : decode cX5_fails 9 = .ok (.invokestatic 78, 3) := by decide +kernel
theorem dX5_fails_12 : decode cX5_fails 12 = .ok (.ifCond .eq 7, 3) := by decide +kernel
theorem dX5_fails_15 : decode cX5_fails 15 = .ok (.iconst 0, 1) := by decide +kernel
theorem dX5_fails_16 : decode cX5_fails 16 = .ok (.goto 4, 3) := by decide +kernel
theorem dX5_fails_19 : decode cX5_fails 19 = .ok (.iconst 1, 1) := by decide +kernel
theorem dX5_fails_20 : decode cX5_fails 20 = .ok (.putfield 74, 3) := by decide +kernel
theorem dX5_fails_23 : decode cX5_fails 23 = .ok (.aload_n 0, 1) := by decide +kernel
theorem dX5_fails_24 : decode cX5_fails 24 = .ok (.getfield 74, 3) := by decide +kernel
theorem dX5_fails_27 : decode cX5_fails 27 = .ok (.ifCond .le 5, 3) := by decide +kernel
theorem dX5_fails_30 : decode cX5_fails 30 = .ok (.iconst 0, 1) := by decide +kernel
theorem dX5_fails_31 : decode cX5_fails 31 = .ok (.ireturn, 1) := by decide +kernel
theorem dX5_fails_32 : decode cX5_fails 32 = .ok (.aload_n 0, 1) := by decide +kernel
theorem dX5_fails_33 : decode cX5_fails 33 = .ok (.invokevirtual 144, 3) := by decide +kernel
theorem dX5_fails_36 : decode cX5_fails 36 = .ok (.aload_n 0, 1) := by decide +kernel
theorem dX5_fails_37 : decode cX5_fails 37 = .ok (.getfield 62, 3) := by decide +kernel
theorem dX5_fails_40 : decode cX5_fails 40 = .ok (.iload_n 1, 1) := by decide +kernel
theorem dX5_fails_41 : decode cX5_fails 41 = .ok (.baload, 1) := by decide +kernel
theorem dX5_fails_42 : decode cX5_fails 42 = .ok (.ireturn, 1) := by decide +kernel
theorem dX5_sorts_0 : decode cX5_sorts 0 = .ok (.iconst 1, 1) := by decide +kernel
theorem dX5_sorts_1 : decode cX5_sorts 1 = .ok (.istore_n 2, 1) := by decide +kernel
theorem dX5_sorts_2 : decode cX5_sorts 2 = .ok (.iload_n 2, 1) := by decide +kernel
theorem dX5_sorts_3 : decode cX5_sorts 3 = .ok (.iload_n 1, 1) := by decide +kernel
theorem dX5_sorts_4 : decode cX5_sorts 4 = .ok (.if_icmp .ge 52, 3) := by decide +kernel
theorem dX5_sorts_7 : decode cX5_sorts 7 = .ok (.iload_n 2, 1) := by decide +kernel
theorem dX5_sorts_8 : decode cX5_sorts 8 = .ok (.istore_n 3, 1) := by decide +kernel
theorem dX5_sorts_9 : decode cX5_sorts 9 = .ok (.iload_n 3, 1) := by decide +kernel
theorem dX5_sorts_10 : decode cX5_sorts 10 = .ok (.ifCond .le 40, 3) := by decide +kernel
theorem dX5_sorts_13 : decode cX5_sorts 13 = .ok (.aload_n 0, 1) := by decide +kernel
theorem dX5_sorts_14 : decode cX5_sorts 14 = .ok (.iload_n 3, 1) := by decide +kernel
theorem dX5_sorts_15 : decode cX5_sorts 15 = .ok (.iaload, 1) := by decide +kernel
theorem dX5_sorts_16 : decode cX5_sorts 16 = .ok (.aload_n 0, 1) := by decide +kernel
theorem dX5_sorts_17 : decode cX5_sorts 17 = .ok (.iload_n 3, 1) := by decide +kernel
theorem dX5_sorts_18 : decode cX5_sorts 18 = .ok (.iconst 1, 1) := by decide +kernel
theorem dX5_sorts_19 : decode cX5_sorts 19 = .ok (.isub, 1) := by decide +kernel
theorem dX5_sorts_20 : decode cX5_sorts 20 = .ok (.iaload, 1) := by decide +kernel
theorem dX5_sorts_21 : decode cX5_sorts 21 = .ok (.if_icmp .ge 29, 3) := by decide +kernel
theorem dX5_sorts_24 : decode cX5_sorts 24 = .ok (.aload_n 0, 1) := by decide +kernel
theorem dX5_sorts_25 : decode cX5_sorts 25 = .ok (.iload_n 3, 1) := by decide +kernel
theorem dX5_sorts_26 : decode cX5_sorts 26 = .ok (.iaload, 1) := by decide +kernel
theorem dX5_sorts_27 : decode cX5_sorts 27 = .ok (.istore 4, 2) := by decide +kernel
theorem dX5_sorts_29 : decode cX5_sorts 29 = .ok (.aload_n 0, 1) := by decide +kernel
theorem dX5_sorts_30 : decode cX5_sorts 30 = .ok (.iload_n 3, 1) := by decide +kernel
theorem dX5_sorts_31 : decode cX5_sorts 31 = .ok (.aload_n 0, 1) := by decide +kernel
theorem dX5_sorts_32 : decode cX5_sorts 32 = .ok (.iload_n 3, 1) := by decide +kernel
theorem dX5_sorts_33 : decode cX5_sorts 33 = .ok (.iconst 1, 1) := by decide +kernel
theorem dX5_sorts_34 : decode cX5_sorts 34 = .ok (.isub, 1) := by decide +kernel
theorem dX5_sorts_35 : decode cX5_sorts 35 = .ok (.iaload, 1) := by decide +kernel
theorem dX5_sorts_36 : decode cX5_sorts 36 = .ok (.iastore, 1) := by decide +kernel
theorem dX5_sorts_37 : decode cX5_sorts 37 = .ok (.aload_n 0, 1) := by decide +kernel
theorem dX5_sorts_38 : decode cX5_sorts 38 = .ok (.iload_n 3, 1) := by decide +kernel
theorem dX5_sorts_39 : decode cX5_sorts 39 = .ok (.iconst 1, 1) := by decide +kernel
theorem dX5_sorts_40 : decode cX5_sorts 40 = .ok (.isub, 1) := by decide +kernel
theorem dX5_sorts_41 : decode cX5_sorts 41 = .ok (.iload 4, 2) := by decide +kernel
theorem dX5_sorts_43 : decode cX5_sorts 43 = .ok (.iastore, 1) := by decide +kernel
theorem dX5_sorts_44 : decode cX5_sorts 44 = .ok (.iinc 3 (-1), 3) := by decide +kernel
theorem dX5_sorts_47 : decode cX5_sorts 47 = .ok (.goto (-38), 3) := by decide +kernel
theorem dX5_sorts_50 : decode cX5_sorts 50 = .ok (.iinc 2 1, 3) := by decide +kernel
theorem dX5_sorts_53 : decode cX5_sorts 53 = .ok (.goto (-51), 3) := by decide +kernel
theorem dX5_sorts_56 : decode cX5_sorts 56 = .ok (.return_, 1) := by decide +kernel
theorem dX5_isOut_0 : decode cX5_isOut 0 = .ok (.iconst 0, 1) := by decide +kernel
theorem dX5_isOut_1 : decode cX5_isOut 1 = .ok (.istore 4, 2) := by decide +kernel
theorem dX5_isOut_3 : decode cX5_isOut 3 = .ok (.iconst 0, 1) := by decide +kernel
theorem dX5_isOut_4 : decode cX5_isOut 4 = .ok (.istore 5, 2) := by decide +kernel
theorem dX5_isOut_6 : decode cX5_isOut 6 = .ok (.iload 5, 2) := by decide +kernel
theorem dX5_isOut_8 : decode cX5_isOut 8 = .ok (.aload_n 0, 1) := by decide +kernel
theorem dX5_isOut_9 : decode cX5_isOut 9 = .ok (.getfield 134, 3) := by decide +kernel
theorem dX5_isOut_12 : decode cX5_isOut 12 = .ok (.if_icmp .ge 131, 3) := by decide +kernel
theorem dX5_isOut_15 : decode cX5_isOut 15 = .ok (.iload_n 1, 1) := by decide +kernel
theorem dX5_isOut_16 : decode cX5_isOut 16 = .ok (.aload_n 0, 1) := by decide +kernel
theorem dX5_isOut_17 : decode cX5_isOut 17 = .ok (.getfield 56, 3) := by decide +kernel
theorem dX5_isOut_20 : decode cX5_isOut 20 = .ok (.iconst 4, 1) := by decide +kernel
theorem dX5_isOut_21 : decode cX5_isOut 21 = .ok (.iload 5, 2) := by decide +kernel
theorem dX5_isOut_23 : decode cX5_isOut 23 = .ok (.imul, 1) := by decide +kernel
theorem dX5_isOut_24 : decode cX5_isOut 24 = .ok (.iaload, 1) := by decide +kernel
theorem dX5_isOut_25 : decode cX5_isOut 25 = .ok (.if_icmp .lt 52, 3) := by decide +kernel
theorem dX5_isOut_28 : decode cX5_isOut 28 = .ok (.iload_n 1, 1) := by decide +kernel
theorem dX5_isOut_29 : decode cX5_isOut 29 = .ok (.aload_n 0, 1) := by decide +kernel
theorem dX5_isOut_30 : decode cX5_isOut 30 = .ok (.getfield 56, 3) := by decide +kernel
theorem dX5_isOut_33 : decode cX5_isOut 33 = .ok (.iconst 4, 1) := by decide +kernel
theorem dX5_isOut_34 : decode cX5_isOut 34 = .ok (.iload 5, 2) := by decide +kernel
theorem dX5_isOut_36 : decode cX5_isOut 36 = .ok (.imul, 1) := by decide +kernel
theorem dX5_isOut_37 : decode cX5_isOut 37 = .ok (.iconst 1, 1) := by decide +kernel
theorem dX5_isOut_38 : decode cX5_isOut 38 = .ok (.iadd, 1) := by decide +kernel
theorem dX5_isOut_39 : decode cX5_isOut 39 = .ok (.iaload, 1) := by decide +kernel
theorem dX5_isOut_40 : decode cX5_isOut 40 = .ok (.if_icmp .ge 37, 3) := by decide +kernel
theorem dX5_isOut_43 : decode cX5_isOut 43 = .ok (.iload_n 2, 1) := by decide +kernel
theorem dX5_isOut_44 : decode cX5_isOut 44 = .ok (.aload_n 0, 1) := by decide +kernel
theorem dX5_isOut_45 : decode cX5_isOut 45 = .ok (.getfield 56, 3) := by decide +kernel
theorem dX5_isOut_48 : decode cX5_isOut 48 = .ok (.iconst 4, 1) := by decide +kernel
theorem dX5_isOut_49 : decode cX5_isOut 49 = .ok (.iload 5, 2) := by decide +kernel
theorem dX5_isOut_51 : decode cX5_isOut 51 = .ok (.imul, 1) := by decide +kernel
theorem dX5_isOut_52 : decode cX5_isOut 52 = .ok (.iconst 2, 1) := by decide +kernel
theorem dX5_isOut_53 : decode cX5_isOut 53 = .ok (.iadd, 1) := by decide +kernel
theorem dX5_isOut_54 : decode cX5_isOut 54 = .ok (.iaload, 1) := by decide +kernel
theorem dX5_isOut_55 : decode cX5_isOut 55 = .ok (.if_icmp .lt 22, 3) := by decide +kernel
theorem dX5_isOut_58 : decode cX5_isOut 58 = .ok (.iload_n 2, 1) := by decide +kernel
theorem dX5_isOut_59 : decode cX5_isOut 59 = .ok (.aload_n 0, 1) := by decide +kernel
theorem dX5_isOut_60 : decode cX5_isOut 60 = .ok (.getfield 56, 3) := by decide +kernel
theorem dX5_isOut_63 : decode cX5_isOut 63 = .ok (.iconst 4, 1) := by decide +kernel
theorem dX5_isOut_64 : decode cX5_isOut 64 = .ok (.iload 5, 2) := by decide +kernel
theorem dX5_isOut_66 : decode cX5_isOut 66 = .ok (.imul, 1) := by decide +kernel
theorem dX5_isOut_67 : decode cX5_isOut 67 = .ok (.iconst 3, 1) := by decide +kernel
theorem dX5_isOut_68 : decode cX5_isOut 68 = .ok (.iadd, 1) := by decide +kernel
theorem dX5_isOut_69 : decode cX5_isOut 69 = .ok (.iaload, 1) := by decide +kernel
theorem dX5_isOut_70 : decode cX5_isOut 70 = .ok (.if_icmp .ge 7, 3) := by decide +kernel
theorem dX5_isOut_73 : decode cX5_isOut 73 = .ok (.iconst 1, 1) := by decide +kernel
theorem dX5_isOut_74 : decode cX5_isOut 74 = .ok (.goto 4, 3) := by decide +kernel
theorem dX5_isOut_77 : decode cX5_isOut 77 = .ok (.iconst 0, 1) := by decide +kernel
theorem dX5_isOut_78 : decode cX5_isOut 78 = .ok (.istore 6, 2) := by decide +kernel
theorem dX5_isOut_80 : decode cX5_isOut 80 = .ok (.iload 4, 2) := by decide +kernel
theorem dX5_isOut_82 : decode cX5_isOut 82 = .ok (.ifCond .ne 48, 3) := by decide +kernel
theorem dX5_isOut_85 : decode cX5_isOut 85 = .ok (.aload_n 0, 1) := by decide +kernel
theorem dX5_isOut_86 : decode cX5_isOut 86 = .ok (.getfield 62, 3) := by decide +kernel
theorem dX5_isOut_89 : decode cX5_isOut 89 = .ok (.iload 5, 2) := by decide +kernel
theorem dX5_isOut_91 : decode cX5_isOut 91 = .ok (.baload, 1) := by decide +kernel
theorem dX5_isOut_92 : decode cX5_isOut 92 = .ok (.ifCond .ne 42, 3) := by decide +kernel
theorem dX5_isOut_95 : decode cX5_isOut 95 = .ok (.iload 6, 2) := by decide +kernel
theorem dX5_isOut_97 : decode cX5_isOut 97 = .ok (.ifCond .eq 37, 3) := by decide +kernel
theorem dX5_isOut_100 : decode cX5_isOut 100 = .ok (.iload_n 3, 1) := by decide +kernel
theorem dX5_isOut_101 : decode cX5_isOut 101 = .ok (.aload_n 0, 1) := by decide +kernel
theorem dX5_isOut_102 : decode cX5_isOut 102 = .ok (.getfield 59, 3) := by decide +kernel
theorem dX5_isOut_105 : decode cX5_isOut 105 = .ok (.iload 5, 2) := by decide +kernel
theorem dX5_isOut_107 : decode cX5_isOut 107 = .ok (.iaload, 1) := by decide +kernel
theorem dX5_isOut_108 : decode cX5_isOut 108 = .ok (.if_icmp .lt 26, 3) := by decide +kernel
theorem dX5_isOut_111 : decode cX5_isOut 111 = .ok (.iload_n 3, 1) := by decide +kernel
theorem dX5_isOut_112 : decode cX5_isOut 112 = .ok (.aload_n 0, 1) := by decide +kernel
theorem dX5_isOut_113 : decode cX5_isOut 113 = .ok (.getfield 59, 3) := by decide +kernel
theorem dX5_isOut_116 : decode cX5_isOut 116 = .ok (.iload 5, 2) := by decide +kernel
theorem dX5_isOut_118 : decode cX5_isOut 118 = .ok (.iaload, 1) := by decide +kernel
theorem dX5_isOut_119 : decode cX5_isOut 119 = .ok (.aload_n 0, 1) := by decide +kernel
theorem dX5_isOut_120 : decode cX5_isOut 120 = .ok (.getfield 50, 3) := by decide +kernel
theorem dX5_isOut_123 : decode cX5_isOut 123 = .ok (.iload 5, 2) := by decide +kernel
theorem dX5_isOut_125 : decode cX5_isOut 125 = .ok (.iaload, 1) := by decide +kernel
theorem dX5_isOut_126 : decode cX5_isOut 126 = .ok (.iadd, 1) := by decide +kernel
theorem dX5_isOut_127 : decode cX5_isOut 127 = .ok (.if_icmp .ge 7, 3) := by decide +kernel
theorem dX5_isOut_130 : decode cX5_isOut 130 = .ok (.iconst 1, 1) := by decide +kernel
theorem dX5_isOut_131 : decode cX5_isOut 131 = .ok (.goto 4, 3) := by decide +kernel
theorem dX5_isOut_134 : decode cX5_isOut 134 = .ok (.iconst 0, 1) := by decide +kernel
theorem dX5_isOut_135 : decode cX5_isOut 135 = .ok (.istore 4, 2) := by decide +kernel
theorem dX5_isOut_137 : decode cX5_isOut 137 = .ok (.iinc 5 1, 3) := by decide +kernel
theorem dX5_isOut_140 : decode cX5_isOut 140 = .ok (.goto (-134), 3) := by decide +kernel
theorem dX5_isOut_143 : decode cX5_isOut 143 = .ok (.iload 4, 2) := by decide +kernel
theorem dX5_isOut_145 : decode cX5_isOut 145 = .ok (.ireturn, 1) := by decide +kernel
theorem dX5_out_0 : decode cX5_out 0 = .ok (.iconst 0, 1) := by decide +kernel
theorem dX5_out_1 : decode cX5_out 1 = .ok (.istore_n 1, 1) := by decide +kernel
theorem dX5_out_2 : decode cX5_out 2 = .ok (.iconst 0, 1) := by decide +kernel
theorem dX5_out_3 : decode cX5_out 3 = .ok (.istore_n 2, 1) := by decide +kernel
theorem dX5_out_4 : decode cX5_out 4 = .ok (.iload_n 2, 1) := by decide +kernel
theorem dX5_out_5 : decode cX5_out 5 = .ok (.aload_n 0, 1) := by decide +kernel
theorem dX5_out_6 : decode cX5_out 6 = .ok (.getfield 134, 3) := by decide +kernel
theorem dX5_out_9 : decode cX5_out 9 = .ok (.if_icmp .ge 120, 3) := by decide +kernel
theorem dX5_out_12 : decode cX5_out 12 = .ok (.aload_n 0, 1) := by decide +kernel
theorem dX5_out_13 : decode cX5_out 13 = .ok (.getfield 62, 3) := by decide +kernel
theorem dX5_out_16 : decode cX5_out 16 = .ok (.iload_n 2, 1) := by decide +kernel
theorem dX5_out_17 : decode cX5_out 17 = .ok (.baload, 1) := by decide +kernel
theorem dX5_out_18 : decode cX5_out 18 = .ok (.ifCond .ne 105, 3) := by decide +kernel
theorem dX5_out_21 : decode cX5_out 21 = .ok (.aload_n 0, 1) := by decide +kernel
theorem dX5_out_22 : decode cX5_out 22 = .ok (.getfield 65, 3) := by decide +kernel
theorem dX5_out_25 : decode cX5_out 25 = .ok (.iload_n 1, 1) := by decide +kernel
theorem dX5_out_26 : decode cX5_out 26 = .ok (.aload_n 0, 1) := by decide +kernel
theorem dX5_out_27 : decode cX5_out 27 = .ok (.getfield 56, 3) := by decide +kernel
theorem dX5_out_30 : decode cX5_out 30 = .ok (.iconst 4, 1) := by decide +kernel
theorem dX5_out_31 : decode cX5_out 31 = .ok (.iload_n 2, 1) := by decide +kernel
theorem dX5_out_32 : decode cX5_out 32 = .ok (.imul, 1) := by decide +kernel
theorem dX5_out_33 : decode cX5_out 33 = .ok (.iaload, 1) := by decide +kernel
theorem dX5_out_34 : decode cX5_out 34 = .ok (.iastore, 1) := by decide +kernel
theorem dX5_out_35 : decode cX5_out 35 = .ok (.aload_n 0, 1) := by decide +kernel
theorem dX5_out_36 : decode cX5_out 36 = .ok (.getfield 65, 3) := by decide +kernel
theorem dX5_out_39 : decode cX5_out 39 = .ok (.iload_n 1, 1) := by decide +kernel
theorem dX5_out_40 : decode cX5_out 40 = .ok (.iconst 1, 1) := by decide +kernel
theorem dX5_out_41 : decode cX5_out 41 = .ok (.iadd, 1) := by decide +kernel
theorem dX5_out_42 : decode cX5_out 42 = .ok (.aload_n 0, 1) := by decide +kernel
theorem dX5_out_43 : decode cX5_out 43 = .ok (.getfield 56, 3) := by decide +kernel
theorem dX5_out_46 : decode cX5_out 46 = .ok (.iconst 4, 1) := by decide +kernel
theorem dX5_out_47 : decode cX5_out 47 = .ok (.iload_n 2, 1) := by decide +kernel
theorem dX5_out_48 : decode cX5_out 48 = .ok (.imul, 1) := by decide +kernel
theorem dX5_out_49 : decode cX5_out 49 = .ok (.iconst 1, 1) := by decide +kernel
theorem dX5_out_50 : decode cX5_out 50 = .ok (.iadd, 1) := by decide +kernel
theorem dX5_out_51 : decode cX5_out 51 = .ok (.iaload, 1) := by decide +kernel
theorem dX5_out_52 : decode cX5_out 52 = .ok (.iastore, 1) := by decide +kernel
theorem dX5_out_53 : decode cX5_out 53 = .ok (.aload_n 0, 1) := by decide +kernel
theorem dX5_out_54 : decode cX5_out 54 = .ok (.getfield 68, 3) := by decide +kernel
theorem dX5_out_57 : decode cX5_out 57 = .ok (.iload_n 1, 1) := by decide +kernel
theorem dX5_out_58 : decode cX5_out 58 = .ok (.aload_n 0, 1) := by decide +kernel
theorem dX5_out_59 : decode cX5_out 59 = .ok (.getfield 56, 3) := by decide +kernel
theorem dX5_out_62 : decode cX5_out 62 = .ok (.iconst 4, 1) := by decide +kernel
theorem dX5_out_63 : decode cX5_out 63 = .ok (.iload_n 2, 1) := by decide +kernel
theorem dX5_out_64 : decode cX5_out 64 = .ok (.imul, 1) := by decide +kernel
theorem dX5_out_65 : decode cX5_out 65 = .ok (.iconst 2, 1) := by decide +kernel
theorem dX5_out_66 : decode cX5_out 66 = .ok (.iadd, 1) := by decide +kernel
theorem dX5_out_67 : decode cX5_out 67 = .ok (.iaload, 1) := by decide +kernel
theorem dX5_out_68 : decode cX5_out 68 = .ok (.iastore, 1) := by decide +kernel
theorem dX5_out_69 : decode cX5_out 69 = .ok (.aload_n 0, 1) := by decide +kernel
theorem dX5_out_70 : decode cX5_out 70 = .ok (.getfield 68, 3) := by decide +kernel
theorem dX5_out_73 : decode cX5_out 73 = .ok (.iload_n 1, 1) := by decide +kernel
theorem dX5_out_74 : decode cX5_out 74 = .ok (.iconst 1, 1) := by decide +kernel
theorem dX5_out_75 : decode cX5_out 75 = .ok (.iadd, 1) := by decide +kernel
theorem dX5_out_76 : decode cX5_out 76 = .ok (.aload_n 0, 1) := by decide +kernel
theorem dX5_out_77 : decode cX5_out 77 = .ok (.getfield 56, 3) := by decide +kernel
theorem dX5_out_80 : decode cX5_out 80 = .ok (.iconst 4, 1) := by decide +kernel
theorem dX5_out_81 : decode cX5_out 81 = .ok (.iload_n 2, 1) := by decide +kernel
theorem dX5_out_82 : decode cX5_out 82 = .ok (.imul, 1) := by decide +kernel
theorem dX5_out_83 : decode cX5_out 83 = .ok (.iconst 3, 1) := by decide +kernel
theorem dX5_out_84 : decode cX5_out 84 = .ok (.iadd, 1) := by decide +kernel
theorem dX5_out_85 : decode cX5_out 85 = .ok (.iaload, 1) := by decide +kernel
theorem dX5_out_86 : decode cX5_out 86 = .ok (.iastore, 1) := by decide +kernel
theorem dX5_out_87 : decode cX5_out 87 = .ok (.aload_n 0, 1) := by decide +kernel
theorem dX5_out_88 : decode cX5_out 88 = .ok (.getfield 71, 3) := by decide +kernel
theorem dX5_out_91 : decode cX5_out 91 = .ok (.iload_n 1, 1) := by decide +kernel
theorem dX5_out_92 : decode cX5_out 92 = .ok (.aload_n 0, 1) := by decide +kernel
theorem dX5_out_93 : decode cX5_out 93 = .ok (.getfield 59, 3) := by decide +kernel
theorem dX5_out_96 : decode cX5_out 96 = .ok (.iload_n 2, 1) := by decide +kernel
theorem dX5_out_97 : decode cX5_out 97 = .ok (.iaload, 1) := by decide +kernel
theorem dX5_out_98 : decode cX5_out 98 = .ok (.iastore, 1) := by decide +kernel
theorem dX5_out_99 : decode cX5_out 99 = .ok (.aload_n 0, 1) := by decide +kernel
theorem dX5_out_100 : decode cX5_out 100 = .ok (.getfield 71, 3) := by decide +kernel
theorem dX5_out_103 : decode cX5_out 103 = .ok (.iload_n 1, 1) := by decide +kernel
theorem dX5_out_104 : decode cX5_out 104 = .ok (.iconst 1, 1) := by decide +kernel
theorem dX5_out_105 : decode cX5_out 105 = .ok (.iadd, 1) := by decide +kernel
theorem dX5_out_106 : decode cX5_out 106 = .ok (.aload_n 0, 1) := by decide +kernel
theorem dX5_out_107 : decode cX5_out 107 = .ok (.getfield 59, 3) := by decide +kernel
theorem dX5_out_110 : decode cX5_out 110 = .ok (.iload_n 2, 1) := by decide +kernel
theorem dX5_out_111 : decode cX5_out 111 = .ok (.iaload, 1) := by decide +kernel
theorem dX5_out_112 : decode cX5_out 112 = .ok (.aload_n 0, 1) := by decide +kernel
theorem dX5_out_113 : decode cX5_out 113 = .ok (.getfield 50, 3) := by decide +kernel
theorem dX5_out_116 : decode cX5_out 116 = .ok (.iload_n 2, 1) := by decide +kernel
theorem dX5_out_117 : decode cX5_out 117 = .ok (.iaload, 1) := by decide +kernel
theorem dX5_out_118 : decode cX5_out 118 = .ok (.iadd, 1) := by decide +kernel
theorem dX5_out_119 : decode cX5_out 119 = .ok (.iastore, 1) := by decide +kernel
theorem dX5_out_120 : decode cX5_out 120 = .ok (.iinc 1 2, 3) := by decide +kernel
theorem dX5_out_123 : decode cX5_out 123 = .ok (.iinc 2 1, 3) := by decide +kernel
theorem dX5_out_126 : decode cX5_out 126 = .ok (.goto (-122), 3) := by decide +kernel
theorem dX5_out_129 : decode cX5_out 129 = .ok (.aload_n 0, 1) := by decide +kernel
theorem dX5_out_130 : decode cX5_out 130 = .ok (.getfield 65, 3) := by decide +kernel
theorem dX5_out_133 : decode cX5_out 133 = .ok (.iload_n 1, 1) := by decide +kernel
theorem dX5_out_134 : decode cX5_out 134 = .ok (.invokestatic 147, 3) := by decide +kernel
theorem dX5_out_137 : decode cX5_out 137 = .ok (.aload_n 0, 1) := by decide +kernel
theorem dX5_out_138 : decode cX5_out 138 = .ok (.getfield 68, 3) := by decide +kernel
theorem dX5_out_141 : decode cX5_out 141 = .ok (.iload_n 1, 1) := by decide +kernel
theorem dX5_out_142 : decode cX5_out 142 = .ok (.invokestatic 147, 3) := by decide +kernel
theorem dX5_out_145 : decode cX5_out 145 = .ok (.aload_n 0, 1) := by decide +kernel
theorem dX5_out_146 : decode cX5_out 146 = .ok (.getfield 71, 3) := by decide +kernel
theorem dX5_out_149 : decode cX5_out 149 = .ok (.iload_n 1, 1) := by decide +kernel
theorem dX5_out_150 : decode cX5_out 150 = .ok (.invokestatic 147, 3) := by decide +kernel
theorem dX5_out_153 : decode cX5_out 153 = .ok (.iconst 0, 1) := by decide +kernel
theorem dX5_out_154 : decode cX5_out 154 = .ok (.istore_n 2, 1) := by decide +kernel
theorem dX5_out_155 : decode cX5_out 155 = .ok (.iconst 0, 1) := by decide +kernel
theorem dX5_out_156 : decode cX5_out 156 = .ok (.istore_n 3, 1) := by decide +kernel
theorem dX5_out_157 : decode cX5_out 157 = .ok (.iload_n 3, 1) := by decide +kernel
theorem dX5_out_158 : decode cX5_out 158 = .ok (.iconst 1, 1) := by decide +kernel
theorem dX5_out_159 : decode cX5_out 159 = .ok (.iadd, 1) := by decide +kernel
theorem dX5_out_160 : decode cX5_out 160 = .ok (.iload_n 1, 1) := by decide +kernel
theorem dX5_out_161 : decode cX5_out 161 = .ok (.if_icmp .ge 137, 3) := by decide +kernel
theorem dX5_out_164 : decode cX5_out 164 = .ok (.iconst 0, 1) := by decide +kernel
theorem dX5_out_165 : decode cX5_out 165 = .ok (.istore 4, 2) := by decide +kernel
theorem dX5_out_167 : decode cX5_out 167 = .ok (.iload 4, 2) := by decide +kernel
theorem dX5_out_169 : decode cX5_out 169 = .ok (.iconst 1, 1) := by decide +kernel
theorem dX5_out_170 : decode cX5_out 170 = .ok (.iadd, 1) := by decide +kernel
theorem dX5_out_171 : decode cX5_out 171 = .ok (.iload_n 1, 1) := by decide +kernel
theorem dX5_out_172 : decode cX5_out 172 = .ok (.if_icmp .ge 120, 3) := by decide +kernel
theorem dX5_out_175 : decode cX5_out 175 = .ok (.iconst 0, 1) := by decide +kernel
theorem dX5_out_176 : decode cX5_out 176 = .ok (.istore 5, 2) := by decide +kernel
theorem dX5_out_178 : decode cX5_out 178 = .ok (.iload 5, 2) := by decide +kernel
theorem dX5_out_180 : decode cX5_out 180 = .ok (.iconst 1, 1) := by decide +kernel
theorem dX5_out_181 : decode cX5_out 181 = .ok (.iadd, 1) := by decide +kernel
theorem dX5_out_182 : decode cX5_out 182 = .ok (.iload_n 1, 1) := by decide +kernel
theorem dX5_out_183 : decode cX5_out 183 = .ok (.if_icmp .ge 103, 3) := by decide +kernel
theorem dX5_out_186 : decode cX5_out 186 = .ok (.aload_n 0, 1) := by decide +kernel
theorem dX5_out_187 : decode cX5_out 187 = .ok (.getfield 65, 3) := by decide +kernel
theorem dX5_out_190 : decode cX5_out 190 = .ok (.iload_n 3, 1) := by decide +kernel
theorem dX5_out_191 : decode cX5_out 191 = .ok (.iconst 1, 1) := by decide +kernel
theorem dX5_out_192 : decode cX5_out 192 = .ok (.iadd, 1) := by decide +kernel
theorem dX5_out_193 : decode cX5_out 193 = .ok (.iaload, 1) := by decide +kernel
theorem dX5_out_194 : decode cX5_out 194 = .ok (.aload_n 0, 1) := by decide +kernel
theorem dX5_out_195 : decode cX5_out 195 = .ok (.getfield 65, 3) := by decide +kernel
theorem dX5_out_198 : decode cX5_out 198 = .ok (.iload_n 3, 1) := by decide +kernel
theorem dX5_out_199 : decode cX5_out 199 = .ok (.iaload, 1) := by decide +kernel
theorem dX5_out_200 : decode cX5_out 200 = .ok (.isub, 1) := by decide +kernel
theorem dX5_out_201 : decode cX5_out 201 = .ok (.aload_n 0, 1) := by decide +kernel
theorem dX5_out_202 : decode cX5_out 202 = .ok (.getfield 68, 3) := by decide +kernel
theorem dX5_out_205 : decode cX5_out 205 = .ok (.iload 4, 2) := by decide +kernel
theorem dX5_out_207 : decode cX5_out 207 = .ok (.iconst 1, 1) := by decide +kernel
theorem dX5_out_208 : decode cX5_out 208 = .ok (.iadd, 1) := by decide +kernel
theorem dX5_out_209 : decode cX5_out 209 = .ok (.iaload, 1) := by decide +kernel
theorem dX5_out_210 : decode cX5_out 210 = .ok (.aload_n 0, 1) := by decide +kernel
theorem dX5_out_211 : decode cX5_out 211 = .ok (.getfield 68, 3) := by decide +kernel
theorem dX5_out_214 : decode cX5_out 214 = .ok (.iload 4, 2) := by decide +kernel
theorem dX5_out_216 : decode cX5_out 216 = .ok (.iaload, 1) := by decide +kernel
theorem dX5_out_217 : decode cX5_out 217 = .ok (.isub, 1) := by decide +kernel
theorem dX5_out_218 : decode cX5_out 218 = .ok (.imul, 1) := by decide +kernel
theorem dX5_out_219 : decode cX5_out 219 = .ok (.aload_n 0, 1) := by decide +kernel
theorem dX5_out_220 : decode cX5_out 220 = .ok (.getfield 71, 3) := by decide +kernel
theorem dX5_out_223 : decode cX5_out 223 = .ok (.iload 5, 2) := by decide +kernel
theorem dX5_out_225 : decode cX5_out 225 = .ok (.iconst 1, 1) := by decide +kernel
theorem dX5_out_226 : decode cX5_out 226 = .ok (.iadd, 1) := by decide +kernel
theorem dX5_out_227 : decode cX5_out 227 = .ok (.iaload, 1) := by decide +kernel
theorem dX5_out_228 : decode cX5_out 228 = .ok (.aload_n 0, 1) := by decide +kernel
theorem dX5_out_229 : decode cX5_out 229 = .ok (.getfield 71, 3) := by decide +kernel
theorem dX5_out_232 : decode cX5_out 232 = .ok (.iload 5, 2) := by decide +kernel
theorem dX5_out_234 : decode cX5_out 234 = .ok (.iaload, 1) := by decide +kernel
theorem dX5_out_235 : decode cX5_out 235 = .ok (.isub, 1) := by decide +kernel
theorem dX5_out_236 : decode cX5_out 236 = .ok (.imul, 1) := by decide +kernel
theorem dX5_out_237 : decode cX5_out 237 = .ok (.istore 6, 2) := by decide +kernel
theorem dX5_out_239 : decode cX5_out 239 = .ok (.iload_n 2, 1) := by decide +kernel
theorem dX5_out_240 : decode cX5_out 240 = .ok (.iload 6, 2) := by decide +kernel
theorem dX5_out_242 : decode cX5_out 242 = .ok (.ifCond .le 35, 3) := by decide +kernel
theorem dX5_out_245 : decode cX5_out 245 = .ok (.aload_n 0, 1) := by decide +kernel
theorem dX5_out_246 : decode cX5_out 246 = .ok (.aload_n 0, 1) := by decide +kernel
theorem dX5_out_247 : decode cX5_out 247 = .ok (.getfield 65, 3) := by decide +kernel
theorem dX5_out_250 : decode cX5_out 250 = .ok (.iload_n 3, 1) := by decide +kernel
theorem dX5_out_251 : decode cX5_out 251 = .ok (.iaload, 1) := by decide +kernel
theorem dX5_out_252 : decode cX5_out 252 = .ok (.aload_n 0, 1) := by decide +kernel
theorem dX5_out_253 : decode cX5_out 253 = .ok (.getfield 68, 3) := by decide +kernel
theorem dX5_out_256 : decode cX5_out 256 = .ok (.iload 4, 2) := by decide +kernel
theorem dX5_out_258 : decode cX5_out 258 = .ok (.iaload, 1) := by decide +kernel
theorem dX5_out_259 : decode cX5_out 259 = .ok (.aload_n 0, 1) := by decide +kernel
theorem dX5_out_260 : decode cX5_out 260 = .ok (.getfield 71, 3) := by decide +kernel
theorem dX5_out_263 : decode cX5_out 263 = .ok (.iload 5, 2) := by decide +kernel
theorem dX5_out_265 : decode cX5_out 265 = .ok (.iaload, 1) := by decide +kernel
theorem dX5_out_266 : decode cX5_out 266 = .ok (.invokevirtual 151, 3) := by decide +kernel
theorem dX5_out_269 : decode cX5_out 269 = .ok (.ifCond .eq 8, 3) := by decide +kernel
theorem dX5_out_272 : decode cX5_out 272 = .ok (.iload 6, 2) := by decide +kernel
theorem dX5_out_274 : decode cX5_out 274 = .ok (.goto 4, 3) := by decide +kernel
theorem dX5_out_277 : decode cX5_out 277 = .ok (.iconst 0, 1) := by decide +kernel
theorem dX5_out_278 : decode cX5_out 278 = .ok (.iadd, 1) := by decide +kernel
theorem dX5_out_279 : decode cX5_out 279 = .ok (.istore_n 2, 1) := by decide +kernel
theorem dX5_out_280 : decode cX5_out 280 = .ok (.iinc 5 1, 3) := by decide +kernel
theorem dX5_out_283 : decode cX5_out 283 = .ok (.goto (-105), 3) := by decide +kernel
theorem dX5_out_286 : decode cX5_out 286 = .ok (.iinc 4 1, 3) := by decide +kernel
theorem dX5_out_289 : decode cX5_out 289 = .ok (.goto (-122), 3) := by decide +kernel
theorem dX5_out_292 : decode cX5_out 292 = .ok (.iinc 3 1, 3) := by decide +kernel
theorem dX5_out_295 : decode cX5_out 295 = .ok (.goto (-138), 3) := by decide +kernel
theorem dX5_out_298 : decode cX5_out 298 = .ok (.iload_n 2, 1) := by decide +kernel
theorem dX5_out_299 : decode cX5_out 299 = .ok (.ireturn, 1) := by decide +kernel
theorem dX5_whole_0 : decode cX5_whole 0 = .ok (.aload_n 0, 1) := by decide +kernel
theorem dX5_whole_1 : decode cX5_whole 1 = .ok (.getfield 56, 3) := by decide +kernel
theorem dX5_whole_4 : decode cX5_whole 4 = .ok (.bipush 33, 2) := by decide +kernel
theorem dX5_whole_6 : decode cX5_whole 6 = .ok (.iaload, 1) := by decide +kernel
theorem dX5_whole_7 : decode cX5_whole 7 = .ok (.aload_n 0, 1) := by decide +kernel
theorem dX5_whole_8 : decode cX5_whole 8 = .ok (.getfield 56, 3) := by decide +kernel
theorem dX5_whole_11 : decode cX5_whole 11 = .ok (.bipush 32, 2) := by decide +kernel
theorem dX5_whole_13 : decode cX5_whole 13 = .ok (.iaload, 1) := by decide +kernel
theorem dX5_whole_14 : decode cX5_whole 14 = .ok (.isub, 1) := by decide +kernel
theorem dX5_whole_15 : decode cX5_whole 15 = .ok (.aload_n 0, 1) := by decide +kernel
theorem dX5_whole_16 : decode cX5_whole 16 = .ok (.getfield 56, 3) := by decide +kernel
theorem dX5_whole_19 : decode cX5_whole 19 = .ok (.bipush 35, 2) := by decide +kernel
theorem dX5_whole_21 : decode cX5_whole 21 = .ok (.iaload, 1) := by decide +kernel
theorem dX5_whole_22 : decode cX5_whole 22 = .ok (.aload_n 0, 1) := by decide +kernel
theorem dX5_whole_23 : decode cX5_whole 23 = .ok (.getfield 56, 3) := by decide +kernel
theorem dX5_whole_26 : decode cX5_whole 26 = .ok (.bipush 34, 2) := by decide +kernel
theorem dX5_whole_28 : decode cX5_whole 28 = .ok (.iaload, 1) := by decide +kernel
theorem dX5_whole_29 : decode cX5_whole 29 = .ok (.isub, 1) := by decide +kernel
theorem dX5_whole_30 : decode cX5_whole 30 = .ok (.imul, 1) := by decide +kernel
theorem dX5_whole_31 : decode cX5_whole 31 = .ok (.aload_n 0, 1) := by decide +kernel
theorem dX5_whole_32 : decode cX5_whole 32 = .ok (.getfield 141, 3) := by decide +kernel
theorem dX5_whole_35 : decode cX5_whole 35 = .ok (.imul, 1) := by decide +kernel
theorem dX5_whole_36 : decode cX5_whole 36 = .ok (.ireturn, 1) := by decide +kernel
theorem dX5_volume_0 : decode cX5_volume 0 = .ok (.aload_n 0, 1) := by decide +kernel
theorem dX5_volume_1 : decode cX5_volume 1 = .ok (.iconst 0, 1) := by decide +kernel
theorem dX5_volume_2 : decode cX5_volume 2 = .ok (.putfield 74, 3) := by decide +kernel
theorem dX5_volume_5 : decode cX5_volume 5 = .ok (.aload_n 0, 1) := by decide +kernel
theorem dX5_volume_6 : decode cX5_volume 6 = .ok (.invokevirtual 144, 3) := by decide +kernel
theorem dX5_volume_9 : decode cX5_volume 9 = .ok (.aload_n 0, 1) := by decide +kernel
theorem dX5_volume_10 : decode cX5_volume 10 = .ok (.getfield 62, 3) := by decide +kernel
theorem dX5_volume_13 : decode cX5_volume 13 = .ok (.bipush 8, 2) := by decide +kernel
theorem dX5_volume_15 : decode cX5_volume 15 = .ok (.baload, 1) := by decide +kernel
theorem dX5_volume_16 : decode cX5_volume 16 = .ok (.ifCond .eq 7, 3) := by decide +kernel
theorem dX5_volume_19 : decode cX5_volume 19 = .ok (.iconst 0, 1) := by decide +kernel
theorem dX5_volume_20 : decode cX5_volume 20 = .ok (.goto 12, 3) := by decide +kernel
theorem dX5_volume_23 : decode cX5_volume 23 = .ok (.aload_n 0, 1) := by decide +kernel
theorem dX5_volume_24 : decode cX5_volume 24 = .ok (.invokevirtual 154, 3) := by decide +kernel
theorem dX5_volume_27 : decode cX5_volume 27 = .ok (.aload_n 0, 1) := by decide +kernel
theorem dX5_volume_28 : decode cX5_volume 28 = .ok (.invokevirtual 158, 3) := by decide +kernel
theorem dX5_volume_31 : decode cX5_volume 31 = .ok (.isub, 1) := by decide +kernel
theorem dX5_volume_32 : decode cX5_volume 32 = .ok (.ireturn, 1) := by decide +kernel
theorem dX5_price_0 : decode cX5_price 0 = .ok (.aload_n 0, 1) := by decide +kernel
theorem dX5_price_1 : decode cX5_price 1 = .ok (.iconst 0, 1) := by decide +kernel
theorem dX5_price_2 : decode cX5_price 2 = .ok (.putfield 74, 3) := by decide +kernel
theorem dX5_price_5 : decode cX5_price 5 = .ok (.aload_n 0, 1) := by decide +kernel
theorem dX5_price_6 : decode cX5_price 6 = .ok (.invokevirtual 144, 3) := by decide +kernel
theorem dX5_price_9 : decode cX5_price 9 = .ok (.aload_n 0, 1) := by decide +kernel
theorem dX5_price_10 : decode cX5_price 10 = .ok (.getfield 62, 3) := by decide +kernel
theorem dX5_price_13 : decode cX5_price 13 = .ok (.bipush 8, 2) := by decide +kernel
theorem dX5_price_15 : decode cX5_price 15 = .ok (.baload, 1) := by decide +kernel
theorem dX5_price_16 : decode cX5_price 16 = .ok (.ifCond .eq 5, 3) := by decide +kernel
theorem dX5_price_19 : decode cX5_price 19 = .ok (.iconst 0, 1) := by decide +kernel
theorem dX5_price_20 : decode cX5_price 20 = .ok (.ireturn, 1) := by decide +kernel
theorem dX5_price_21 : decode cX5_price 21 = .ok (.iconst 0, 1) := by decide +kernel
theorem dX5_price_22 : decode cX5_price 22 = .ok (.istore_n 1, 1) := by decide +kernel
theorem dX5_price_23 : decode cX5_price 23 = .ok (.iconst 0, 1) := by decide +kernel
theorem dX5_price_24 : decode cX5_price 24 = .ok (.istore_n 2, 1) := by decide +kernel
theorem dX5_price_25 : decode cX5_price 25 = .ok (.iload_n 2, 1) := by decide +kernel
theorem dX5_price_26 : decode cX5_price 26 = .ok (.aload_n 0, 1) := by decide +kernel
theorem dX5_price_27 : decode cX5_price 27 = .ok (.getfield 134, 3) := by decide +kernel
theorem dX5_price_30 : decode cX5_price 30 = .ok (.if_icmp .ge 87, 3) := by decide +kernel
theorem dX5_price_33 : decode cX5_price 33 = .ok (.aload_n 0, 1) := by decide +kernel
theorem dX5_price_34 : decode cX5_price 34 = .ok (.getfield 62, 3) := by decide +kernel
theorem dX5_price_37 : decode cX5_price 37 = .ok (.iload_n 2, 1) := by decide +kernel
theorem dX5_price_38 : decode cX5_price 38 = .ok (.baload, 1) := by decide +kernel
theorem dX5_price_39 : decode cX5_price 39 = .ok (.ifCond .ne 7, 3) := by decide +kernel
theorem dX5_price_42 : decode cX5_price 42 = .ok (.iconst 1, 1) := by decide +kernel
theorem dX5_price_43 : decode cX5_price 43 = .ok (.goto 4, 3) := by decide +kernel
theorem dX5_price_46 : decode cX5_price 46 = .ok (.iconst 0, 1) := by decide +kernel
theorem dX5_price_47 : decode cX5_price 47 = .ok (.istore_n 3, 1) := by decide +kernel
theorem dX5_price_48 : decode cX5_price 48 = .ok (.iconst 0, 1) := by decide +kernel
theorem dX5_price_49 : decode cX5_price 49 = .ok (.istore 4, 2) := by decide +kernel
theorem dX5_price_51 : decode cX5_price 51 = .ok (.iload 4, 2) := by decide +kernel
theorem dX5_price_53 : decode cX5_price 53 = .ok (.iload_n 2, 1) := by decide +kernel
theorem dX5_price_54 : decode cX5_price 54 = .ok (.if_icmp .ge 45, 3) := by decide +kernel
theorem dX5_price_57 : decode cX5_price 57 = .ok (.iload_n 3, 1) := by decide +kernel
theorem dX5_price_58 : decode cX5_price 58 = .ok (.ifCond .eq 33, 3) := by decide +kernel
theorem dX5_price_61 : decode cX5_price 61 = .ok (.aload_n 0, 1) := by decide +kernel
theorem dX5_price_62 : decode cX5_price 62 = .ok (.getfield 62, 3) := by decide +kernel
theorem dX5_price_65 : decode cX5_price 65 = .ok (.iload 4, 2) := by decide +kernel
theorem dX5_price_67 : decode cX5_price 67 = .ok (.baload, 1) := by decide +kernel
theorem dX5_price_68 : decode cX5_price 68 = .ok (.ifCond .ne 19, 3) := by decide +kernel
theorem dX5_price_71 : decode cX5_price 71 = .ok (.aload_n 0, 1) := by decide +kernel
theorem dX5_price_72 : decode cX5_price 72 = .ok (.getfield 50, 3) := by decide +kernel
theorem dX5_price_75 : decode cX5_price 75 = .ok (.iload 4, 2) := by decide +kernel
theorem dX5_price_77 : decode cX5_price 77 = .ok (.iaload, 1) := by decide +kernel
theorem dX5_price_78 : decode cX5_price 78 = .ok (.aload_n 0, 1) := by decide +kernel
theorem dX5_price_79 : decode cX5_price 79 = .ok (.getfield 50, 3) := by decide +kernel
theorem dX5_price_82 : decode cX5_price 82 = .ok (.iload_n 2, 1) := by decide +kernel
theorem dX5_price_83 : decode cX5_price 83 = .ok (.iaload, 1) := by decide +kernel
theorem dX5_price_84 : decode cX5_price 84 = .ok (.if_icmp .eq 7, 3) := by decide +kernel
theorem dX5_price_87 : decode cX5_price 87 = .ok (.iconst 1, 1) := by decide +kernel
theorem dX5_price_88 : decode cX5_price 88 = .ok (.goto 4, 3) := by decide +kernel
theorem dX5_price_91 : decode cX5_price 91 = .ok (.iconst 0, 1) := by decide +kernel
theorem dX5_price_92 : decode cX5_price 92 = .ok (.istore_n 3, 1) := by decide +kernel
theorem dX5_price_93 : decode cX5_price 93 = .ok (.iinc 4 1, 3) := by decide +kernel
theorem dX5_price_96 : decode cX5_price 96 = .ok (.goto (-45), 3) := by decide +kernel
theorem dX5_price_99 : decode cX5_price 99 = .ok (.iload_n 1, 1) := by decide +kernel
theorem dX5_price_100 : decode cX5_price 100 = .ok (.iload_n 3, 1) := by decide +kernel
theorem dX5_price_101 : decode cX5_price 101 = .ok (.ifCond .eq 7, 3) := by decide +kernel
theorem dX5_price_104 : decode cX5_price 104 = .ok (.iconst 1, 1) := by decide +kernel
theorem dX5_price_105 : decode cX5_price 105 = .ok (.goto 4, 3) := by decide +kernel
theorem dX5_price_108 : decode cX5_price 108 = .ok (.iconst 0, 1) := by decide +kernel
theorem dX5_price_109 : decode cX5_price 109 = .ok (.iadd, 1) := by decide +kernel
theorem dX5_price_110 : decode cX5_price 110 = .ok (.istore_n 1, 1) := by decide +kernel
theorem dX5_price_111 : decode cX5_price 111 = .ok (.iinc 2 1, 3) := by decide +kernel
theorem dX5_price_114 : decode cX5_price 114 = .ok (.goto (-89), 3) := by decide +kernel
theorem dX5_price_117 : decode cX5_price 117 = .ok (.iconst 2, 1) := by decide +kernel
theorem dX5_price_118 : decode cX5_price 118 = .ok (.aload_n 0, 1) := by decide +kernel
theorem dX5_price_119 : decode cX5_price 119 = .ok (.invokevirtual 154, 3) := by decide +kernel
theorem dX5_price_122 : decode cX5_price 122 = .ok (.imul, 1) := by decide +kernel
theorem dX5_price_123 : decode cX5_price 123 = .ok (.aload_n 0, 1) := by decide +kernel
theorem dX5_price_124 : decode cX5_price 124 = .ok (.invokevirtual 158, 3) := by decide +kernel
theorem dX5_price_127 : decode cX5_price 127 = .ok (.iadd, 1) := by decide +kernel
theorem dX5_price_128 : decode cX5_price 128 = .ok (.bipush 100, 2) := by decide +kernel
theorem dX5_price_130 : decode cX5_price 130 = .ok (.iload_n 1, 1) := by decide +kernel
theorem dX5_price_131 : decode cX5_price 131 = .ok (.imul, 1) := by decide +kernel
theorem dX5_price_132 : decode cX5_price 132 = .ok (.iadd, 1) := by decide +kernel
theorem dX5_price_133 : decode cX5_price 133 = .ok (.ireturn, 1) := by decide +kernel
