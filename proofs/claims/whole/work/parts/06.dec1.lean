theorem dX1_init_0 : decode cX1_init 0 = .ok (.aload_n 0, 1) := by decide +kernel
theorem dX1_init_1 : decode cX1_init 1 = .ok (.invokespecial 1, 3) := by decide +kernel
theorem dX1_init_4 : decode cX1_init 4 = .ok (.return_, 1) := by decide +kernel
theorem dX1_put_0 : decode cX1_put 0 = .ok (.aload_n 0, 1) := by decide +kernel
theorem dX1_put_1 : decode cX1_put 1 = .ok (.iload_n 1, 1) := by decide +kernel
theorem dX1_put_2 : decode cX1_put 2 = .ok (.putfield 7, 3) := by decide +kernel
theorem dX1_put_5 : decode cX1_put 5 = .ok (.aload_n 0, 1) := by decide +kernel
theorem dX1_put_6 : decode cX1_put 6 = .ok (.iload_n 2, 1) := by decide +kernel
theorem dX1_put_7 : decode cX1_put 7 = .ok (.putfield 13, 3) := by decide +kernel
theorem dX1_put_10 : decode cX1_put 10 = .ok (.aload_n 0, 1) := by decide +kernel
theorem dX1_put_11 : decode cX1_put 11 = .ok (.iload_n 3, 1) := by decide +kernel
theorem dX1_put_12 : decode cX1_put 12 = .ok (.putfield 16, 3) := by decide +kernel
theorem dX1_put_15 : decode cX1_put 15 = .ok (.aload_n 0, 1) := by decide +kernel
theorem dX1_put_16 : decode cX1_put 16 = .ok (.aload 4, 2) := by decide +kernel
theorem dX1_put_18 : decode cX1_put 18 = .ok (.putfield 19, 3) := by decide +kernel
theorem dX1_put_21 : decode cX1_put 21 = .ok (.return_, 1) := by decide +kernel
theorem dX1_measure_0 : decode cX1_measure 0 = .ok (.aload_n 0, 1) := by decide +kernel
theorem dX1_measure_1 : decode cX1_measure 1 = .ok (.aload_n 1, 1) := by decide +kernel
theorem dX1_measure_2 : decode cX1_measure 2 = .ok (.aload_n 0, 1) := by decide +kernel
theorem dX1_measure_3 : decode cX1_measure 3 = .ok (.getfield 7, 3) := by decide +kernel
theorem dX1_measure_6 : decode cX1_measure 6 = .ok (.invokevirtual 23, 3) := by decide +kernel
theorem dX1_measure_9 : decode cX1_measure 9 = .ok (.aload_n 1, 1) := by decide +kernel
theorem dX1_measure_10 : decode cX1_measure 10 = .ok (.aload_n 0, 1) := by decide +kernel
theorem dX1_measure_11 : decode cX1_measure 11 = .ok (.getfield 13, 3) := by decide +kernel
theorem dX1_measure_14 : decode cX1_measure 14 = .ok (.invokevirtual 23, 3) := by decide +kernel
theorem dX1_measure_17 : decode cX1_measure 17 = .ok (.invokestatic 29, 3) := by decide +kernel
theorem dX1_measure_20 : decode cX1_measure 20 = .ok (.putfield 35, 3) := by decide +kernel
theorem dX1_measure_23 : decode cX1_measure 23 = .ok (.aload_n 0, 1) := by decide +kernel
theorem dX1_measure_24 : decode cX1_measure 24 = .ok (.aload_n 1, 1) := by decide +kernel
theorem dX1_measure_25 : decode cX1_measure 25 = .ok (.aload_n 0, 1) := by decide +kernel
theorem dX1_measure_26 : decode cX1_measure 26 = .ok (.getfield 7, 3) := by decide +kernel
theorem dX1_measure_29 : decode cX1_measure 29 = .ok (.invokevirtual 23, 3) := by decide +kernel
theorem dX1_measure_32 : decode cX1_measure 32 = .ok (.aload_n 1, 1) := by decide +kernel
theorem dX1_measure_33 : decode cX1_measure 33 = .ok (.aload_n 0, 1) := by decide +kernel
theorem dX1_measure_34 : decode cX1_measure 34 = .ok (.getfield 13, 3) := by decide +kernel
theorem dX1_measure_37 : decode cX1_measure 37 = .ok (.invokevirtual 23, 3) := by decide +kernel
theorem dX1_measure_40 : decode cX1_measure 40 = .ok (.invokestatic 38, 3) := by decide +kernel
theorem dX1_measure_43 : decode cX1_measure 43 = .ok (.putfield 41, 3) := by decide +kernel
theorem dX1_measure_46 : decode cX1_measure 46 = .ok (.aload_n 0, 1) := by decide +kernel
theorem dX1_measure_47 : decode cX1_measure 47 = .ok (.aload_n 2, 1) := by decide +kernel
theorem dX1_measure_48 : decode cX1_measure 48 = .ok (.aload_n 0, 1) := by decide +kernel
theorem dX1_measure_49 : decode cX1_measure 49 = .ok (.getfield 7, 3) := by decide +kernel
theorem dX1_measure_52 : decode cX1_measure 52 = .ok (.invokevirtual 23, 3) := by decide +kernel
theorem dX1_measure_55 : decode cX1_measure 55 = .ok (.aload_n 2, 1) := by decide +kernel
theorem dX1_measure_56 : decode cX1_measure 56 = .ok (.aload_n 0, 1) := by decide +kernel
theorem dX1_measure_57 : decode cX1_measure 57 = .ok (.getfield 13, 3) := by decide +kernel
theorem dX1_measure_60 : decode cX1_measure 60 = .ok (.invokevirtual 23, 3) := by decide +kernel
theorem dX1_measure_63 : decode cX1_measure 63 = .ok (.invokestatic 29, 3) := by decide +kernel
theorem dX1_measure_66 : decode cX1_measure 66 = .ok (.putfield 44, 3) := by decide +kernel
theorem dX1_measure_69 : decode cX1_measure 69 = .ok (.aload_n 0, 1) := by decide +kernel
theorem dX1_measure_70 : decode cX1_measure 70 = .ok (.aload_n 2, 1) := by decide +kernel
theorem dX1_measure_71 : decode cX1_measure 71 = .ok (.aload_n 0, 1) := by decide +kernel
theorem dX1_measure_72 : decode cX1_measure 72 = .ok (.getfield 7, 3) := by decide +kernel
theorem dX1_measure_75 : decode cX1_measure 75 = .ok (.invokevirtual 23, 3) := by decide +kernel
theorem dX1_measure_78 : decode cX1_measure 78 = .ok (.aload_n 2, 1) := by decide +kernel
theorem dX1_measure_79 : decode cX1_measure 79 = .ok (.aload_n 0, 1) := by decide +kernel
theorem dX1_measure_80 : decode cX1_measure 80 = .ok (.getfield 13, 3) := by decide +kernel
theorem dX1_measure_83 : decode cX1_measure 83 = .ok (.invokevirtual 23, 3) := by decide +kernel
theorem dX1_measure_86 : decode cX1_measure 86 = .ok (.invokestatic 38, 3) := by decide +kernel
theorem dX1_measure_89 : decode cX1_measure 89 = .ok (.putfield 47, 3) := by decide +kernel
theorem dX1_measure_92 : decode cX1_measure 92 = .ok (.aload_n 0, 1) := by decide +kernel
theorem dX1_measure_93 : decode cX1_measure 93 = .ok (.getfield 35, 3) := by decide +kernel
theorem dX1_measure_96 : decode cX1_measure 96 = .ok (.aload_n 0, 1) := by decide +kernel
theorem dX1_measure_97 : decode cX1_measure 97 = .ok (.getfield 41, 3) := by decide +kernel
theorem dX1_measure_100 : decode cX1_measure 100 = .ok (.if_icmp .eq 14, 3) := by decide +kernel
theorem dX1_measure_103 : decode cX1_measure 103 = .ok (.aload_n 0, 1) := by decide +kernel
theorem dX1_measure_104 : decode cX1_measure 104 = .ok (.getfield 44, 3) := by decide +kernel
theorem dX1_measure_107 : decode cX1_measure 107 = .ok (.aload_n 0, 1) := by decide +kernel
theorem dX1_measure_108 : decode cX1_measure 108 = .ok (.getfield 47, 3) := by decide +kernel
theorem dX1_measure_111 : decode cX1_measure 111 = .ok (.if_icmp .ne 7, 3) := by decide +kernel
theorem dX1_measure_114 : decode cX1_measure 114 = .ok (.iconst 1, 1) := by decide +kernel
theorem dX1_measure_115 : decode cX1_measure 115 = .ok (.goto 4, 3) := by decide +kernel
theorem dX1_measure_118 : decode cX1_measure 118 = .ok (.iconst 0, 1) := by decide +kernel
theorem dX1_measure_119 : decode cX1_measure 119 = .ok (.istore 4, 2) := by decide +kernel
theorem dX1_measure_121 : decode cX1_measure 121 = .ok (.aload_n 0, 1) := by decide +kernel
theorem dX1_measure_122 : decode cX1_measure 122 = .ok (.getfield 19, 3) := by decide +kernel
theorem dX1_measure_125 : decode cX1_measure 125 = .ok (.ifnonnull 17, 3) := by decide +kernel
theorem dX1_measure_128 : decode cX1_measure 128 = .ok (.aload_n 0, 1) := by decide +kernel
theorem dX1_measure_129 : decode cX1_measure 129 = .ok (.iconst 0, 1) := by decide +kernel
theorem dX1_measure_130 : decode cX1_measure 130 = .ok (.putfield 50, 3) := by decide +kernel
theorem dX1_measure_133 : decode cX1_measure 133 = .ok (.aload_n 0, 1) := by decide +kernel
theorem dX1_measure_134 : decode cX1_measure 134 = .ok (.iload 4, 2) := by decide +kernel
theorem dX1_measure_136 : decode cX1_measure 136 = .ok (.putfield 53, 3) := by decide +kernel
theorem dX1_measure_139 : decode cX1_measure 139 = .ok (.goto 62, 3) := by decide +kernel
theorem dX1_measure_142 : decode cX1_measure 142 = .ok (.aload_n 0, 1) := by decide +kernel
theorem dX1_measure_143 : decode cX1_measure 143 = .ok (.aload_n 0, 1) := by decide +kernel
theorem dX1_measure_144 : decode cX1_measure 144 = .ok (.getfield 19, 3) := by decide +kernel
theorem dX1_measure_147 : decode cX1_measure 147 = .ok (.getfield 50, 3) := by decide +kernel
theorem dX1_measure_150 : decode cX1_measure 150 = .ok (.aload_n 0, 1) := by decide +kernel
theorem dX1_measure_151 : decode cX1_measure 151 = .ok (.getfield 16, 3) := by decide +kernel
theorem dX1_measure_154 : decode cX1_measure 154 = .ok (.iadd, 1) := by decide +kernel
theorem dX1_measure_155 : decode cX1_measure 155 = .ok (.putfield 50, 3) := by decide +kernel
theorem dX1_measure_158 : decode cX1_measure 158 = .ok (.aload_n 0, 1) := by decide +kernel
theorem dX1_measure_159 : decode cX1_measure 159 = .ok (.iload 4, 2) := by decide +kernel
theorem dX1_measure_161 : decode cX1_measure 161 = .ok (.ifCond .ne 32, 3) := by decide +kernel
theorem dX1_measure_164 : decode cX1_measure 164 = .ok (.aload_n 0, 1) := by decide +kernel
theorem dX1_measure_165 : decode cX1_measure 165 = .ok (.getfield 19, 3) := by decide +kernel
theorem dX1_measure_168 : decode cX1_measure 168 = .ok (.getfield 53, 3) := by decide +kernel
theorem dX1_measure_171 : decode cX1_measure 171 = .ok (.ifCond .ne 22, 3) := by decide +kernel
theorem dX1_measure_174 : decode cX1_measure 174 = .ok (.aload_n 0, 1) := by decide +kernel
theorem dX1_measure_175 : decode cX1_measure 175 = .ok (.aload_n 0, 1) := by decide +kernel
theorem dX1_measure_176 : decode cX1_measure 176 = .ok (.getfield 19, 3) := by decide +kernel
theorem dX1_measure_179 : decode cX1_measure 179 = .ok (.invokevirtual 57, 3) := by decide +kernel
theorem dX1_measure_182 : decode cX1_measure 182 = .ok (.ifCond .eq 11, 3) := by decide +kernel
theorem dX1_measure_185 : decode cX1_measure 185 = .ok (.aload_n 0, 1) := by decide +kernel
theorem dX1_measure_186 : decode cX1_measure 186 = .ok (.getfield 50, 3) := by decide +kernel
theorem dX1_measure_189 : decode cX1_measure 189 = .ok (.iload_n 3, 1) := by decide +kernel
theorem dX1_measure_190 : decode cX1_measure 190 = .ok (.if_icmp .lt 7, 3) := by decide +kernel
theorem dX1_measure_193 : decode cX1_measure 193 = .ok (.iconst 1, 1) := by decide +kernel
theorem dX1_measure_194 : decode cX1_measure 194 = .ok (.goto 4, 3) := by decide +kernel
theorem dX1_measure_197 : decode cX1_measure 197 = .ok (.iconst 0, 1) := by decide +kernel
theorem dX1_measure_198 : decode cX1_measure 198 = .ok (.putfield 53, 3) := by decide +kernel
theorem dX1_measure_201 : decode cX1_measure 201 = .ok (.return_, 1) := by decide +kernel
theorem dX1_cells_0 : decode cX1_cells 0 = .ok (.aload_n 0, 1) := by decide +kernel
theorem dX1_cells_1 : decode cX1_cells 1 = .ok (.getfield 41, 3) := by decide +kernel
theorem dX1_cells_4 : decode cX1_cells 4 = .ok (.aload_n 0, 1) := by decide +kernel
theorem dX1_cells_5 : decode cX1_cells 5 = .ok (.getfield 35, 3) := by decide +kernel
theorem dX1_cells_8 : decode cX1_cells 8 = .ok (.isub, 1) := by decide +kernel
theorem dX1_cells_9 : decode cX1_cells 9 = .ok (.aload_n 0, 1) := by decide +kernel
theorem dX1_cells_10 : decode cX1_cells 10 = .ok (.getfield 47, 3) := by decide +kernel
theorem dX1_cells_13 : decode cX1_cells 13 = .ok (.aload_n 0, 1) := by decide +kernel
theorem dX1_cells_14 : decode cX1_cells 14 = .ok (.getfield 44, 3) := by decide +kernel
theorem dX1_cells_17 : decode cX1_cells 17 = .ok (.isub, 1) := by decide +kernel
theorem dX1_cells_18 : decode cX1_cells 18 = .ok (.imul, 1) := by decide +kernel
theorem dX1_cells_19 : decode cX1_cells 19 = .ok (.aload_n 0, 1) := by decide +kernel
theorem dX1_cells_20 : decode cX1_cells 20 = .ok (.getfield 16, 3) := by decide +kernel
theorem dX1_cells_23 : decode cX1_cells 23 = .ok (.imul, 1) := by decide +kernel
theorem dX1_cells_24 : decode cX1_cells 24 = .ok (.ireturn, 1) := by decide +kernel
theorem dX1_covers_0 : decode cX1_covers 0 = .ok (.aload_n 0, 1) := by decide +kernel
theorem dX1_covers_1 : decode cX1_covers 1 = .ok (.getfield 35, 3) := by decide +kernel
theorem dX1_covers_4 : decode cX1_covers 4 = .ok (.iload_n 1, 1) := by decide +kernel
theorem dX1_covers_5 : decode cX1_covers 5 = .ok (.if_icmp .gt 31, 3) := by decide +kernel
theorem dX1_covers_8 : decode cX1_covers 8 = .ok (.iload_n 1, 1) := by decide +kernel
theorem dX1_covers_9 : decode cX1_covers 9 = .ok (.aload_n 0, 1) := by decide +kernel
theorem dX1_covers_10 : decode cX1_covers 10 = .ok (.getfield 41, 3) := by decide +kernel
theorem dX1_covers_13 : decode cX1_covers 13 = .ok (.if_icmp .ge 23, 3) := by decide +kernel
theorem dX1_covers_16 : decode cX1_covers 16 = .ok (.aload_n 0, 1) := by decide +kernel
theorem dX1_covers_17 : decode cX1_covers 17 = .ok (.getfield 44, 3) := by decide +kernel
theorem dX1_covers_20 : decode cX1_covers 20 = .ok (.iload_n 2, 1) := by decide +kernel
theorem dX1_covers_21 : decode cX1_covers 21 = .ok (.if_icmp .gt 15, 3) := by decide +kernel
theorem dX1_covers_24 : decode cX1_covers 24 = .ok (.iload_n 2, 1) := by decide +kernel
theorem dX1_covers_25 : decode cX1_covers 25 = .ok (.aload_n 0, 1) := by decide +kernel
theorem dX1_covers_26 : decode cX1_covers 26 = .ok (.getfield 47, 3) := by decide +kernel
theorem dX1_covers_29 : decode cX1_covers 29 = .ok (.if_icmp .ge 7, 3) := by decide +kernel
theorem dX1_covers_32 : decode cX1_covers 32 = .ok (.iconst 1, 1) := by decide +kernel
theorem dX1_covers_33 : decode cX1_covers 33 = .ok (.goto 4, 3) := by decide +kernel
theorem dX1_covers_36 : decode cX1_covers 36 = .ok (.iconst 0, 1) := by decide +kernel
theorem dX1_covers_37 : decode cX1_covers 37 = .ok (.ireturn, 1) := by decide +kernel
theorem dX1_layers_0 : decode cX1_layers 0 = .ok (.lconst 1, 1) := by decide +kernel
theorem dX1_layers_1 : decode cX1_layers 1 = .ok (.aload_n 0, 1) := by decide +kernel
theorem dX1_layers_2 : decode cX1_layers 2 = .ok (.getfield 16, 3) := by decide +kernel
theorem dX1_layers_5 : decode cX1_layers 5 = .ok (.lshl, 1) := by decide +kernel
theorem dX1_layers_6 : decode cX1_layers 6 = .ok (.lconst 1, 1) := by decide +kernel
theorem dX1_layers_7 : decode cX1_layers 7 = .ok (.lsub, 1) := by decide +kernel
theorem dX1_layers_8 : decode cX1_layers 8 = .ok (.aload_n 0, 1) := by decide +kernel
theorem dX1_layers_9 : decode cX1_layers 9 = .ok (.getfield 50, 3) := by decide +kernel
theorem dX1_layers_12 : decode cX1_layers 12 = .ok (.aload_n 0, 1) := by decide +kernel
theorem dX1_layers_13 : decode cX1_layers 13 = .ok (.getfield 16, 3) := by decide +kernel
theorem dX1_layers_16 : decode cX1_layers 16 = .ok (.isub, 1) := by decide +kernel
theorem dX1_layers_17 : decode cX1_layers 17 = .ok (.lshl, 1) := by decide +kernel
theorem dX1_layers_18 : decode cX1_layers 18 = .ok (.lreturn, 1) := by decide +kernel
theorem dX1_liesIn_0 : decode cX1_liesIn 0 = .ok (.aload_n 0, 1) := by decide +kernel
theorem dX1_liesIn_1 : decode cX1_liesIn 1 = .ok (.getfield 35, 3) := by decide +kernel
theorem dX1_liesIn_4 : decode cX1_liesIn 4 = .ok (.aload_n 1, 1) := by decide +kernel
theorem dX1_liesIn_5 : decode cX1_liesIn 5 = .ok (.getfield 35, 3) := by decide +kernel
theorem dX1_liesIn_8 : decode cX1_liesIn 8 = .ok (.if_icmp .lt 40, 3) := by decide +kernel
theorem dX1_liesIn_11 : decode cX1_liesIn 11 = .ok (.aload_n 0, 1) := by decide +kernel
theorem dX1_liesIn_12 : decode cX1_liesIn 12 = .ok (.getfield 41, 3) := by decide +kernel
theorem dX1_liesIn_15 : decode cX1_liesIn 15 = .ok (.aload_n 1, 1) := by decide +kernel
theorem dX1_liesIn_16 : decode cX1_liesIn 16 = .ok (.getfield 41, 3) := by decide +kernel
theorem dX1_liesIn_19 : decode cX1_liesIn 19 = .ok (.if_icmp .gt 29, 3) := by decide +kernel
theorem dX1_liesIn_22 : decode cX1_liesIn 22 = .ok (.aload_n 0, 1) := by decide +kernel
theorem dX1_liesIn_23 : decode cX1_liesIn 23 = .ok (.getfield 44, 3) := by decide +kernel
theorem dX1_liesIn_26 : decode cX1_liesIn 26 = .ok (.aload_n 1, 1) := by decide +kernel
theorem dX1_liesIn_27 : decode cX1_liesIn 27 = .ok (.getfield 44, 3) := by decide +kernel
theorem dX1_liesIn_30 : decode cX1_liesIn 30 = .ok (.if_icmp .lt 18, 3) := by decide +kernel
theorem dX1_liesIn_33 : decode cX1_liesIn 33 = .ok (.aload_n 0, 1) := by decide +kernel
theorem dX1_liesIn_34 : decode cX1_liesIn 34 = .ok (.getfield 47, 3) := by decide +kernel
theorem dX1_liesIn_37 : decode cX1_liesIn 37 = .ok (.aload_n 1, 1) := by decide +kernel
theorem dX1_liesIn_38 : decode cX1_liesIn 38 = .ok (.getfield 47, 3) := by decide +kernel
theorem dX1_liesIn_41 : decode cX1_liesIn 41 = .ok (.if_icmp .gt 7, 3) := by decide +kernel
theorem dX1_liesIn_44 : decode cX1_liesIn 44 = .ok (.iconst 1, 1) := by decide +kernel
theorem dX1_liesIn_45 : decode cX1_liesIn 45 = .ok (.goto 4, 3) := by decide +kernel
theorem dX1_liesIn_48 : decode cX1_liesIn 48 = .ok (.iconst 0, 1) := by decide +kernel
theorem dX1_liesIn_49 : decode cX1_liesIn 49 = .ok (.ireturn, 1) := by decide +kernel
theorem dX2_init_0 : decode cX2_init 0 = .ok (.aload_n 0, 1) := by decide +kernel
theorem dX2_init_1 : decode cX2_init 1 = .ok (.invokespecial 3, 3) := by decide +kernel
theorem dX2_init_4 : decode cX2_init 4 = .ok (.aload_n 0, 1) := by decide +kernel
theorem dX2_init_5 : decode cX2_init 5 = .ok (.bipush 9, 2) := by decide +kernel
theorem dX2_init_7 : decode cX2_init 7 = .ok (.anewarray 9, 3) := by decide +kernel
theorem dX2_init_10 : decode cX2_init 10 = .ok (.putfield 11, 3) := by decide +kernel
theorem dX2_init_13 : decode cX2_init 13 = .ok (.aload_n 0, 1) := by decide +kernel
theorem dX2_init_14 : decode cX2_init 14 = .ok (.bipush 16, 2) := by decide +kernel
theorem dX2_init_16 : decode cX2_init 16 = .ok (.newarray .int, 2) := by decide +kernel
theorem dX2_init_18 : decode cX2_init 18 = .ok (.putfield 17, 3) := by decide +kernel
theorem dX2_init_21 : decode cX2_init 21 = .ok (.aload_n 0, 1) := by decide +kernel
theorem dX2_init_22 : decode cX2_init 22 = .ok (.bipush 16, 2) := by decide +kernel
theorem dX2_init_24 : decode cX2_init 24 = .ok (.newarray .int, 2) := by decide +kernel
theorem dX2_init_26 : decode cX2_init 26 = .ok (.putfield 21, 3) := by decide +kernel
theorem dX2_init_29 : decode cX2_init 29 = .ok (.iconst 0, 1) := by decide +kernel
theorem dX2_init_30 : decode cX2_init 30 = .ok (.istore_n 1, 1) := by decide +kernel
theorem dX2_init_31 : decode cX2_init 31 = .ok (.iload_n 1, 1) := by decide +kernel
theorem dX2_init_32 : decode cX2_init 32 = .ok (.aload_n 0, 1) := by decide +kernel
theorem dX2_init_33 : decode cX2_init 33 = .ok (.getfield 11, 3) := by decide +kernel
theorem dX2_init_36 : decode cX2_init 36 = .ok (.arraylength, 1) := by decide +kernel
theorem dX2_init_37 : decode cX2_init 37 = .ok (.if_icmp .ge 22, 3) := by decide +kernel
theorem dX2_init_40 : decode cX2_init 40 = .ok (.aload_n 0, 1) := by decide +kernel
theorem dX2_init_41 : decode cX2_init 41 = .ok (.getfield 11, 3) := by decide +kernel
theorem dX2_init_44 : decode cX2_init 44 = .ok (.iload_n 1, 1) := by decide +kernel
theorem dX2_init_45 : decode cX2_init 45 = .ok (.new 9, 3) := by decide +kernel
theorem dX2_init_48 : decode cX2_init 48 = .ok (.dup, 1) := by decide +kernel
theorem dX2_init_49 : decode cX2_init 49 = .ok (.invokespecial 24, 3) := by decide +kernel
theorem dX2_init_52 : decode cX2_init 52 = .ok (.aastore, 1) := by decide +kernel
theorem dX2_init_53 : decode cX2_init 53 = .ok (.iinc 1 1, 3) := by decide +kernel
theorem dX2_init_56 : decode cX2_init 56 = .ok (.goto (-25), 3) := by decide +kernel
theorem dX2_init_59 : decode cX2_init 59 = .ok (.return_, 1) := by decide +kernel
theorem dX2_base_0 : decode cX2_base 0 = .ok (.aload_n 0, 1) := by decide +kernel
theorem dX2_base_1 : decode cX2_base 1 = .ok (.getfield 11, 3) := by decide +kernel
theorem dX2_base_4 : decode cX2_base 4 = .ok (.iconst 0, 1) := by decide +kernel
theorem dX2_base_5 : decode cX2_base 5 = .ok (.aaload, 1) := by decide +kernel
theorem dX2_base_6 : decode cX2_base 6 = .ok (.areturn, 1) := by decide +kernel
theorem dX2_pocketAt_0 : decode cX2_pocketAt 0 = .ok (.aload_n 0, 1) := by decide +kernel
theorem dX2_pocketAt_1 : decode cX2_pocketAt 1 = .ok (.getfield 11, 3) := by decide +kernel
theorem dX2_pocketAt_4 : decode cX2_pocketAt 4 = .ok (.iconst 1, 1) := by decide +kernel
theorem dX2_pocketAt_5 : decode cX2_pocketAt 5 = .ok (.iload_n 1, 1) := by decide +kernel
theorem dX2_pocketAt_6 : decode cX2_pocketAt 6 = .ok (.iadd, 1) := by decide +kernel
theorem dX2_pocketAt_7 : decode cX2_pocketAt 7 = .ok (.aaload, 1) := by decide +kernel
theorem dX2_pocketAt_8 : decode cX2_pocketAt 8 = .ok (.areturn, 1) := by decide +kernel
theorem dX2_layBase_0 : decode cX2_layBase 0 = .ok (.aload_n 0, 1) := by decide +kernel
theorem dX2_layBase_1 : decode cX2_layBase 1 = .ok (.invokevirtual 25, 3) := by decide +kernel
theorem dX2_layBase_4 : decode cX2_layBase 4 = .ok (.iload_n 1, 1) := by decide +kernel
theorem dX2_layBase_5 : decode cX2_layBase 5 = .ok (.iload_n 2, 1) := by decide +kernel
theorem dX2_layBase_6 : decode cX2_layBase 6 = .ok (.iload_n 3, 1) := by decide +kernel
theorem dX2_layBase_7 : decode cX2_layBase 7 = .ok (.aconst_null, 1) := by decide +kernel
theorem dX2_layBase_8 : decode cX2_layBase 8 = .ok (.invokevirtual 29, 3) := by decide +kernel
theorem dX2_layBase_11 : decode cX2_layBase 11 = .ok (.aload_n 0, 1) := by decide +kernel
theorem dX2_layBase_12 : decode cX2_layBase 12 = .ok (.iconst 1, 1) := by decide +kernel
theorem dX2_layBase_13 : decode cX2_layBase 13 = .ok (.putfield 33, 3) := by decide +kernel
theorem dX2_layBase_16 : decode cX2_layBase 16 = .ok (.return_, 1) := by decide +kernel
theorem dX2_addPocket_0 : decode cX2_addPocket 0 = .ok (.aload_n 0, 1) := by decide +kernel
theorem dX2_addPocket_1 : decode cX2_addPocket 1 = .ok (.getfield 37, 3) := by decide +kernel
theorem dX2_addPocket_4 : decode cX2_addPocket 4 = .ok (.istore 5, 2) := by decide +kernel
theorem dX2_addPocket_6 : decode cX2_addPocket 6 = .ok (.aload_n 0, 1) := by decide +kernel
theorem dX2_addPocket_7 : decode cX2_addPocket 7 = .ok (.iload 5, 2) := by decide +kernel
theorem dX2_addPocket_9 : decode cX2_addPocket 9 = .ok (.invokevirtual 41, 3) := by decide +kernel
theorem dX2_addPocket_12 : decode cX2_addPocket 12 = .ok (.iload_n 1, 1) := by decide +kernel
theorem dX2_addPocket_13 : decode cX2_addPocket 13 = .ok (.iload_n 2, 1) := by decide +kernel
theorem dX2_addPocket_14 : decode cX2_addPocket 14 = .ok (.iload_n 3, 1) := by decide +kernel
theorem dX2_addPocket_15 : decode cX2_addPocket 15 = .ok (.aload_n 0, 1) := by decide +kernel
theorem dX2_addPocket_16 : decode cX2_addPocket 16 = .ok (.iload 4, 2) := by decide +kernel
theorem dX2_addPocket_18 : decode cX2_addPocket 18 = .ok (.invokevirtual 41, 3) := by decide +kernel
theorem dX2_addPocket_21 : decode cX2_addPocket 21 = .ok (.invokevirtual 29, 3) := by decide +kernel
theorem dX2_addPocket_24 : decode cX2_addPocket 24 = .ok (.aload_n 0, 1) := by decide +kernel
theorem dX2_addPocket_25 : decode cX2_addPocket 25 = .ok (.dup, 1) := by decide +kernel
theorem dX2_addPocket_26 : decode cX2_addPocket 26 = .ok (.getfield 37, 3) := by decide +kernel
theorem dX2_addPocket_29 : decode cX2_addPocket 29 = .ok (.iconst 1, 1) := by decide +kernel
theorem dX2_addPocket_30 : decode cX2_addPocket 30 = .ok (.iadd, 1) := by decide +kernel
theorem dX2_addPocket_31 : decode cX2_addPocket 31 = .ok (.putfield 37, 3) := by decide +kernel
theorem dX2_addPocket_34 : decode cX2_addPocket 34 = .ok (.iload 5, 2) := by decide +kernel
theorem dX2_addPocket_36 : decode cX2_addPocket 36 = .ok (.ireturn, 1) := by decide +kernel
theorem dX2_measure_0 : decode cX2_measure 0 = .ok (.aload_n 0, 1) := by decide +kernel
theorem dX2_measure_1 : decode cX2_measure 1 = .ok (.getfield 33, 3) := by decide +kernel
theorem dX2_measure_4 : decode cX2_measure 4 = .ok (.ifCond .ne 4, 3) := by decide +kernel
theorem dX2_measure_7 : decode cX2_measure 7 = .ok (.return_, 1) := by decide +kernel
theorem dX2_measure_8 : decode cX2_measure 8 = .ok (.iconst (-1), 1) := by decide +kernel
theorem dX2_measure_9 : decode cX2_measure 9 = .ok (.istore_n 3, 1) := by decide +kernel
theorem dX2_measure_10 : decode cX2_measure 10 = .ok (.iload_n 3, 1) := by decide +kernel
theorem dX2_measure_11 : decode cX2_measure 11 = .ok (.aload_n 0, 1) := by decide +kernel
theorem dX2_measure_12 : decode cX2_measure 12 = .ok (.getfield 37, 3) := by decide +kernel
theorem dX2_measure_15 : decode cX2_measure 15 = .ok (.if_icmp .ge 26, 3) := by decide +kernel
theorem dX2_measure_18 : decode cX2_measure 18 = .ok (.aload_n 0, 1) := by decide +kernel
theorem dX2_measure_19 : decode cX2_measure 19 = .ok (.iload_n 3, 1) := by decide +kernel
theorem dX2_measure_20 : decode cX2_measure 20 = .ok (.invokevirtual 41, 3) := by decide +kernel
theorem dX2_measure_23 : decode cX2_measure 23 = .ok (.aload_n 1, 1) := by decide +kernel
theorem dX2_measure_24 : decode cX2_measure 24 = .ok (.aload_n 2, 1) := by decide +kernel
theorem dX2_measure_25 : decode cX2_measure 25 = .ok (.aload_n 0, 1) := by decide +kernel
theorem dX2_measure_26 : decode cX2_measure 26 = .ok (.invokevirtual 25, 3) := by decide +kernel
theorem dX2_measure_29 : decode cX2_measure 29 = .ok (.getfield 45, 3) := by decide +kernel
theorem dX2_measure_32 : decode cX2_measure 32 = .ok (.invokevirtual 48, 3) := by decide +kernel
theorem dX2_measure_35 : decode cX2_measure 35 = .ok (.iinc 3 1, 3) := by decide +kernel
theorem dX2_measure_38 : decode cX2_measure 38 = .ok (.goto (-28), 3) := by decide +kernel
theorem dX2_measure_41 : decode cX2_measure 41 = .ok (.return_, 1) := by decide +kernel
theorem dX2_wholeCells_0 : decode cX2_wholeCells 0 = .ok (.aload_n 0, 1) := by decide +kernel
theorem dX2_wholeCells_1 : decode cX2_wholeCells 1 = .ok (.getfield 33, 3) := by decide +kernel
theorem dX2_wholeCells_4 : decode cX2_wholeCells 4 = .ok (.ifCond .eq 23, 3) := by decide +kernel
theorem dX2_wholeCells_7 : decode cX2_wholeCells 7 = .ok (.aload_n 0, 1) := by decide +kernel
theorem dX2_wholeCells_8 : decode cX2_wholeCells 8 = .ok (.invokevirtual 25, 3) := by decide +kernel
theorem dX2_wholeCells_11 : decode cX2_wholeCells 11 = .ok (.getfield 52, 3) := by decide +kernel
theorem dX2_wholeCells_14 : decode cX2_wholeCells 14 = .ok (.ifCond .ne 13, 3) := by decide +kernel
theorem dX2_wholeCells_17 : decode cX2_wholeCells 17 = .ok (.aload_n 0, 1) := by decide +kernel
theorem dX2_wholeCells_18 : decode cX2_wholeCells 18 = .ok (.invokevirtual 25, 3) := by decide +kernel
theorem dX2_wholeCells_21 : decode cX2_wholeCells 21 = .ok (.invokevirtual 55, 3) := by decide +kernel
theorem dX2_wholeCells_24 : decode cX2_wholeCells 24 = .ok (.goto 4, 3) := by decide +kernel
theorem dX2_wholeCells_27 : decode cX2_wholeCells 27 = .ok (.iconst 0, 1) := by decide +kernel
theorem dX2_wholeCells_28 : decode cX2_wholeCells 28 = .ok (.ireturn, 1) := by decide +kernel
theorem dX2_takenCells_0 : decode cX2_takenCells 0 = .ok (.aload_n 0, 1) := by decide +kernel
theorem dX2_takenCells_1 : decode cX2_takenCells 1 = .ok (.invokevirtual 59, 3) := by decide +kernel
theorem dX2_takenCells_4 : decode cX2_takenCells 4 = .ok (.istore_n 1, 1) := by decide +kernel
theorem dX2_takenCells_5 : decode cX2_takenCells 5 = .ok (.iconst 0, 1) := by decide +kernel
theorem dX2_takenCells_6 : decode cX2_takenCells 6 = .ok (.istore_n 2, 1) := by decide +kernel
theorem dX2_takenCells_7 : decode cX2_takenCells 7 = .ok (.iconst 1, 1) := by decide +kernel
theorem dX2_takenCells_8 : decode cX2_takenCells 8 = .ok (.istore_n 3, 1) := by decide +kernel
theorem dX2_takenCells_9 : decode cX2_takenCells 9 = .ok (.iload_n 3, 1) := by decide +kernel
theorem dX2_takenCells_10 : decode cX2_takenCells 10 = .ok (.iload_n 1, 1) := by decide +kernel
theorem dX2_takenCells_11 : decode cX2_takenCells 11 = .ok (.if_icmp .ge 91, 3) := by decide +kernel
theorem dX2_takenCells_14 : decode cX2_takenCells 14 = .ok (.iconst 1, 1) := by decide +kernel
theorem dX2_takenCells_15 : decode cX2_takenCells 15 = .ok (.istore 4, 2) := by decide +kernel
theorem dX2_takenCells_17 : decode cX2_takenCells 17 = .ok (.iload 4, 2) := by decide +kernel
theorem dX2_takenCells_19 : decode cX2_takenCells 19 = .ok (.iload_n 1, 1) := by decide +kernel
theorem dX2_takenCells_20 : decode cX2_takenCells 20 = .ok (.if_icmp .ge 76, 3) := by decide +kernel
theorem dX2_takenCells_23 : decode cX2_takenCells 23 = .ok (.aload_n 0, 1) := by decide +kernel
theorem dX2_takenCells_24 : decode cX2_takenCells 24 = .ok (.getfield 17, 3) := by decide +kernel
theorem dX2_takenCells_27 : decode cX2_takenCells 27 = .ok (.iload_n 3, 1) := by decide +kernel
theorem dX2_takenCells_28 : decode cX2_takenCells 28 = .ok (.iaload, 1) := by decide +kernel
theorem dX2_takenCells_29 : decode cX2_takenCells 29 = .ok (.aload_n 0, 1) := by decide +kernel
theorem dX2_takenCells_30 : decode cX2_takenCells 30 = .ok (.getfield 17, 3) := by decide +kernel
theorem dX2_takenCells_33 : decode cX2_takenCells 33 = .ok (.iload_n 3, 1) := by decide +kernel
theorem dX2_takenCells_34 : decode cX2_takenCells 34 = .ok (.iconst 1, 1) := by decide +kernel
theorem dX2_takenCells_35 : decode cX2_takenCells 35 = .ok (.isub, 1) := by decide +kernel
theorem dX2_takenCells_36 : decode cX2_takenCells 36 = .ok (.iaload, 1) := by decide +kernel
theorem dX2_takenCells_37 : decode cX2_takenCells 37 = .ok (.isub, 1) := by decide +kernel
theorem dX2_takenCells_38 : decode cX2_takenCells 38 = .ok (.aload_n 0, 1) := by decide +kernel
theorem dX2_takenCells_39 : decode cX2_takenCells 39 = .ok (.getfield 21, 3) := by decide +kernel
theorem dX2_takenCells_42 : decode cX2_takenCells 42 = .ok (.iload 4, 2) := by decide +kernel
theorem dX2_takenCells_44 : decode cX2_takenCells 44 = .ok (.iaload, 1) := by decide +kernel
theorem dX2_takenCells_45 : decode cX2_takenCells 45 = .ok (.aload_n 0, 1) := by decide +kernel
theorem dX2_takenCells_46 : decode cX2_takenCells 46 = .ok (.getfield 21, 3) := by decide +kernel
theorem dX2_takenCells_49 : decode cX2_takenCells 49 = .ok (.iload 4, 2) := by decide +kernel
theorem dX2_takenCells_51 : decode cX2_takenCells 51 = .ok (.iconst 1, 1) := by decide +kernel
theorem dX2_takenCells_52 : decode cX2_takenCells 52 = .ok (.isub, 1) := by decide +kernel
theorem dX2_takenCells_53 : decode cX2_takenCells 53 = .ok (.iaload, 1) := by decide +kernel
theorem dX2_takenCells_54 : decode cX2_takenCells 54 = .ok (.isub, 1) := by decide +kernel
theorem dX2_takenCells_55 : decode cX2_takenCells 55 = .ok (.imul, 1) := by decide +kernel
theorem dX2_takenCells_56 : decode cX2_takenCells 56 = .ok (.istore 5, 2) := by decide +kernel
theorem dX2_takenCells_58 : decode cX2_takenCells 58 = .ok (.iload 5, 2) := by decide +kernel
theorem dX2_takenCells_60 : decode cX2_takenCells 60 = .ok (.ifCond .le 30, 3) := by decide +kernel
theorem dX2_takenCells_63 : decode cX2_takenCells 63 = .ok (.iload_n 2, 1) := by decide +kernel
theorem dX2_takenCells_64 : decode cX2_takenCells 64 = .ok (.iload 5, 2) := by decide +kernel
theorem dX2_takenCells_66 : decode cX2_takenCells 66 = .ok (.aload_n 0, 1) := by decide +kernel
theorem dX2_takenCells_67 : decode cX2_takenCells 67 = .ok (.aload_n 0, 1) := by decide +kernel
theorem dX2_takenCells_68 : decode cX2_takenCells 68 = .ok (.getfield 17, 3) := by decide +kernel
theorem dX2_takenCells_71 : decode cX2_takenCells 71 = .ok (.iload_n 3, 1) := by decide +kernel
theorem dX2_takenCells_72 : decode cX2_takenCells 72 = .ok (.iconst 1, 1) := by decide +kernel
theorem dX2_takenCells_73 : decode cX2_takenCells 73 = .ok (.isub, 1) := by decide +kernel
theorem dX2_takenCells_74 : decode cX2_takenCells 74 = .ok (.iaload, 1) := by decide +kernel
theorem dX2_takenCells_75 : decode cX2_takenCells 75 = .ok (.aload_n 0, 1) := by decide +kernel
theorem dX2_takenCells_76 : decode cX2_takenCells 76 = .ok (.getfield 21, 3) := by decide +kernel
theorem dX2_takenCells_79 : decode cX2_takenCells 79 = .ok (.iload 4, 2) := by decide +kernel
theorem dX2_takenCells_81 : decode cX2_takenCells 81 = .ok (.iconst 1, 1) := by decide +kernel
theorem dX2_takenCells_82 : decode cX2_takenCells 82 = .ok (.isub, 1) := by decide +kernel
theorem dX2_takenCells_83 : decode cX2_takenCells 83 = .ok (.iaload, 1) := by decide +kernel
theorem dX2_takenCells_84 : decode cX2_takenCells 84 = .ok (.invokevirtual 62, 3) := by decide +kernel
theorem dX2_takenCells_87 : decode cX2_takenCells 87 = .ok (.imul, 1) := by decide +kernel
theorem dX2_takenCells_88 : decode cX2_takenCells 88 = .ok (.iadd, 1) := by decide +kernel
theorem dX2_takenCells_89 : decode cX2_takenCells 89 = .ok (.istore_n 2, 1) := by decide +kernel
theorem dX2_takenCells_90 : decode cX2_takenCells 90 = .ok (.iinc 4 1, 3) := by decide +kernel
theorem dX2_takenCells_93 : decode cX2_takenCells 93 = .ok (.goto (-76), 3) := by decide +kernel
theorem dX2_takenCells_96 : decode cX2_takenCells 96 = .ok (.iinc 3 1, 3) := by decide +kernel
theorem dX2_takenCells_99 : decode cX2_takenCells 99 = .ok (.goto (-90), 3) := by decide +kernel
theorem dX2_takenCells_102 : decode cX2_takenCells 102 = .ok (.iload_n 2, 1) := by decide +kernel
theorem dX2_takenCells_103 : decode cX2_takenCells 103 = .ok (.ireturn, 1) := by decide +kernel
theorem dX2_differentDepths_0 : decode cX2_differentDepths 0 = .ok (.lconst 0, 1) := by decide +kernel
theorem dX2_differentDepths_1 : decode cX2_differentDepths 1 = .ok (.lstore_n 1, 1) := by decide +kernel
theorem dX2_differentDepths_2 : decode cX2_differentDepths 2 = .ok (.iconst 0, 1) := by decide +kernel
theorem dX2_differentDepths_3 : decode cX2_differentDepths 3 = .ok (.istore_n 3, 1) := by decide +kernel
theorem dX2_differentDepths_4 : decode cX2_differentDepths 4 = .ok (.iload_n 3, 1) := by decide +kernel
theorem dX2_differentDepths_5 : decode cX2_differentDepths 5 = .ok (.aload_n 0, 1) := by decide +kernel
theorem dX2_differentDepths_6 : decode cX2_differentDepths 6 = .ok (.getfield 37, 3) := by decide +kernel
theorem dX2_differentDepths_9 : decode cX2_differentDepths 9 = .ok (.if_icmp .ge 34, 3) := by decide +kernel
theorem dX2_differentDepths_12 : decode cX2_differentDepths 12 = .ok (.aload_n 0, 1) := by decide +kernel
theorem dX2_differentDepths_13 : decode cX2_differentDepths 13 = .ok (.iload_n 3, 1) := by decide +kernel
theorem dX2_differentDepths_14 : decode cX2_differentDepths 14 = .ok (.invokevirtual 41, 3) := by decide +kernel
theorem dX2_differentDepths_17 : decode cX2_differentDepths 17 = .ok (.astore 4, 2) := by decide +kernel
theorem dX2_differentDepths_19 : decode cX2_differentDepths 19 = .ok (.aload 4, 2) := by decide +kernel
theorem dX2_differentDepths_21 : decode cX2_differentDepths 21 = .ok (.getfield 52, 3) := by decide +kernel
theorem dX2_differentDepths_24 : decode cX2_differentDepths 24 = .ok (.ifCond .ne 13, 3) := by decide +kernel
theorem dX2_differentDepths_27 : decode cX2_differentDepths 27 = .ok (.lload_n 1, 1) := by decide +kernel
theorem dX2_differentDepths_28 : decode cX2_differentDepths 28 = .ok (.lconst 1, 1) := by decide +kernel
theorem dX2_differentDepths_29 : decode cX2_differentDepths 29 = .ok (.aload 4, 2) := by decide +kernel
theorem dX2_differentDepths_31 : decode cX2_differentDepths 31 = .ok (.getfield 45, 3) := by decide +kernel
theorem dX2_differentDepths_34 : decode cX2_differentDepths 34 = .ok (.lshl, 1) := by decide +kernel
theorem dX2_differentDepths_35 : decode cX2_differentDepths 35 = .ok (.lor, 1) := by decide +kernel
theorem dX2_differentDepths_36 : decode cX2_differentDepths 36 = .ok (.lstore_n 1, 1) := by decide +kernel
theorem dX2_differentDepths_37 : decode cX2_differentDepths 37 = .ok (.iinc 3 1, 3) := by decide +kernel
theorem dX2_differentDepths_40 : decode cX2_differentDepths 40 = .ok (.goto (-36), 3) := by decide +kernel
theorem dX2_differentDepths_43 : decode cX2_differentDepths 43 = .ok (.lload_n 1, 1) := by decide +kernel
theorem dX2_differentDepths_44 : decode cX2_differentDepths 44 = .ok (.invokestatic 66, 3) := by decide +kernel
theorem dX2_differentDepths_47 : decode cX2_differentDepths 47 = .ok (.ireturn, 1) := by decide +kernel
theorem dX2_gatherSides_0 : decode cX2_gatherSides 0 = .ok (.iconst 0, 1) := by decide +kernel
theorem dX2_gatherSides_1 : decode cX2_gatherSides 1 = .ok (.istore_n 1, 1) := by decide +kernel
theorem dX2_gatherSides_2 : decode cX2_gatherSides 2 = .ok (.iconst 0, 1) := by decide +kernel
theorem dX2_gatherSides_3 : decode cX2_gatherSides 3 = .ok (.istore_n 2, 1) := by decide +kernel
theorem dX2_gatherSides_4 : decode cX2_gatherSides 4 = .ok (.iload_n 2, 1) := by decide +kernel
theorem dX2_gatherSides_5 : decode cX2_gatherSides 5 = .ok (.aload_n 0, 1) := by decide +kernel
theorem dX2_gatherSides_6 : decode cX2_gatherSides 6 = .ok (.getfield 37, 3) := by decide +kernel
theorem dX2_gatherSides_9 : decode cX2_gatherSides 9 = .ok (.if_icmp .ge 77, 3) := by decide +kernel
theorem dX2_gatherSides_12 : decode cX2_gatherSides 12 = .ok (.aload_n 0, 1) := by decide +kernel
theorem dX2_gatherSides_13 : decode cX2_gatherSides 13 = .ok (.iload_n 2, 1) := by decide +kernel
theorem dX2_gatherSides_14 : decode cX2_gatherSides 14 = .ok (.invokevirtual 41, 3) := by decide +kernel
theorem dX2_gatherSides_17 : decode cX2_gatherSides 17 = .ok (.astore_n 3, 1) := by decide +kernel
theorem dX2_gatherSides_18 : decode cX2_gatherSides 18 = .ok (.aload_n 3, 1) := by decide +kernel
theorem dX2_gatherSides_19 : decode cX2_gatherSides 19 = .ok (.getfield 52, 3) := by decide +kernel
theorem dX2_gatherSides_22 : decode cX2_gatherSides 22 = .ok (.ifCond .ne 58, 3) := by decide +kernel
theorem dX2_gatherSides_25 : decode cX2_gatherSides 25 = .ok (.aload_n 0, 1) := by decide +kernel
theorem dX2_gatherSides_26 : decode cX2_gatherSides 26 = .ok (.getfield 17, 3) := by decide +kernel
theorem dX2_gatherSides_29 : decode cX2_gatherSides 29 = .ok (.iload_n 1, 1) := by decide +kernel
theorem dX2_gatherSides_30 : decode cX2_gatherSides 30 = .ok (.aload_n 3, 1) := by decide +kernel
theorem dX2_gatherSides_31 : decode cX2_gatherSides 31 = .ok (.getfield 72, 3) := by decide +kernel
theorem dX2_gatherSides_34 : decode cX2_gatherSides 34 = .ok (.invokestatic 75, 3) := by decide +kernel
theorem dX2_gatherSides_37 : decode cX2_gatherSides 37 = .ok (.aload_n 0, 1) := by decide +kernel
theorem dX2_gatherSides_38 : decode cX2_gatherSides 38 = .ok (.getfield 21, 3) := by decide +kernel
theorem dX2_gatherSides_41 : decode cX2_gatherSides 41 = .ok (.iload_n 1, 1) := by decide +kernel
theorem dX2_gatherSides_42 : decode cX2_gatherSides 42 = .ok (.aload_n 3, 1) := by decide +kernel
theorem dX2_gatherSides_43 : decode cX2_gatherSides 43 = .ok (.getfield 79, 3) := by decide +kernel
theorem dX2_gatherSides_46 : decode cX2_gatherSides 46 = .ok (.invokestatic 75, 3) := by decide +kernel
theorem dX2_gatherSides_49 : decode cX2_gatherSides 49 = .ok (.aload_n 0, 1) := by decide +kernel
theorem dX2_gatherSides_50 : decode cX2_gatherSides 50 = .ok (.getfield 17, 3) := by decide +kernel
theorem dX2_gatherSides_53 : decode cX2_gatherSides 53 = .ok (.iload_n 1, 1) := by decide +kernel
theorem dX2_gatherSides_54 : decode cX2_gatherSides 54 = .ok (.iconst 1, 1) := by decide +kernel
theorem dX2_gatherSides_55 : decode cX2_gatherSides 55 = .ok (.iadd, 1) := by decide +kernel
theorem dX2_gatherSides_56 : decode cX2_gatherSides 56 = .ok (.aload_n 3, 1) := by decide +kernel
theorem dX2_gatherSides_57 : decode cX2_gatherSides 57 = .ok (.getfield 82, 3) := by decide +kernel
theorem dX2_gatherSides_60 : decode cX2_gatherSides 60 = .ok (.invokestatic 75, 3) := by decide +kernel
theorem dX2_gatherSides_63 : decode cX2_gatherSides 63 = .ok (.aload_n 0, 1) := by decide +kernel
theorem dX2_gatherSides_64 : decode cX2_gatherSides 64 = .ok (.getfield 21, 3) := by decide +kernel
theorem dX2_gatherSides_67 : decode cX2_gatherSides 67 = .ok (.iload_n 1, 1) := by decide +kernel
theorem dX2_gatherSides_68 : decode cX2_gatherSides 68 = .ok (.iconst 1, 1) := by decide +kernel
theorem dX2_gatherSides_69 : decode cX2_gatherSides 69 = .ok (.iadd, 1) := by decide +kernel
theorem dX2_gatherSides_70 : decode cX2_gatherSides 70 = .ok (.aload_n 3, 1) := by decide +kernel
theorem dX2_gatherSides_71 : decode cX2_gatherSides 71 = .ok (.getfield 85, 3) := by decide +kernel
theorem dX2_gatherSides_74 : decode cX2_gatherSides 74 = .ok (.invokestatic 75, 3) := by decide +kernel
theorem dX2_gatherSides_77 : decode cX2_gatherSides 77 = .ok (.iinc 1 2, 3) := by decide +kernel
theorem dX2_gatherSides_80 : decode cX2_gatherSides 80 = .ok (.iinc 2 1, 3) := by decide +kernel
theorem dX2_gatherSides_83 : decode cX2_gatherSides 83 = .ok (.goto (-79), 3) := by decide +kernel
theorem dX2_gatherSides_86 : decode cX2_gatherSides 86 = .ok (.iload_n 1, 1) := by decide +kernel
theorem dX2_gatherSides_87 : decode cX2_gatherSides 87 = .ok (.ireturn, 1) := by decide +kernel
theorem dX2_layersTaken_0 : decode cX2_layersTaken 0 = .ok (.lconst 0, 1) := by decide +kernel
theorem dX2_layersTaken_1 : decode cX2_layersTaken 1 = .ok (.lstore_n 3, 1) := by decide +kernel
theorem dX2_layersTaken_2 : decode cX2_layersTaken 2 = .ok (.iconst 0, 1) := by decide +kernel
theorem dX2_layersTaken_3 : decode cX2_layersTaken 3 = .ok (.istore 5, 2) := by decide +kernel
theorem dX2_layersTaken_5 : decode cX2_layersTaken 5 = .ok (.iload 5, 2) := by decide +kernel
theorem dX2_layersTaken_7 : decode cX2_layersTaken 7 = .ok (.aload_n 0, 1) := by decide +kernel
theorem dX2_layersTaken_8 : decode cX2_layersTaken 8 = .ok (.getfield 37, 3) := by decide +kernel
theorem dX2_layersTaken_11 : decode cX2_layersTaken 11 = .ok (.if_icmp .ge 43, 3) := by decide +kernel
theorem dX2_layersTaken_14 : decode cX2_layersTaken 14 = .ok (.aload_n 0, 1) := by decide +kernel
theorem dX2_layersTaken_15 : decode cX2_layersTaken 15 = .ok (.iload 5, 2) := by decide +kernel
theorem dX2_layersTaken_17 : decode cX2_layersTaken 17 = .ok (.invokevirtual 41, 3) := by decide +kernel
theorem dX2_layersTaken_20 : decode cX2_layersTaken 20 = .ok (.astore 6, 2) := by decide +kernel
theorem dX2_layersTaken_22 : decode cX2_layersTaken 22 = .ok (.aload 6, 2) := by decide +kernel
theorem dX2_layersTaken_24 : decode cX2_layersTaken 24 = .ok (.getfield 52, 3) := by decide +kernel
theorem dX2_layersTaken_27 : decode cX2_layersTaken 27 = .ok (.ifCond .ne 21, 3) := by decide +kernel
theorem dX2_layersTaken_30 : decode cX2_layersTaken 30 = .ok (.aload 6, 2) := by decide +kernel
theorem dX2_layersTaken_32 : decode cX2_layersTaken 32 = .ok (.iload_n 1, 1) := by decide +kernel
theorem dX2_layersTaken_33 : decode cX2_layersTaken 33 = .ok (.iload_n 2, 1) := by decide +kernel
theorem dX2_layersTaken_34 : decode cX2_layersTaken 34 = .ok (.invokevirtual 88, 3) := by decide +kernel
theorem dX2_layersTaken_37 : decode cX2_layersTaken 37 = .ok (.ifCond .eq 11, 3) := by decide +kernel
theorem dX2_layersTaken_40 : decode cX2_layersTaken 40 = .ok (.lload_n 3, 1) := by decide +kernel
theorem dX2_layersTaken_41 : decode cX2_layersTaken 41 = .ok (.aload 6, 2) := by decide +kernel
theorem dX2_layersTaken_43 : decode cX2_layersTaken 43 = .ok (.invokevirtual 92, 3) := by decide +kernel
theorem dX2_layersTaken_46 : decode cX2_layersTaken 46 = .ok (.lor, 1) := by decide +kernel
theorem dX2_layersTaken_47 : decode cX2_layersTaken 47 = .ok (.lstore_n 3, 1) := by decide +kernel
theorem dX2_layersTaken_48 : decode cX2_layersTaken 48 = .ok (.iinc 5 1, 3) := by decide +kernel
theorem dX2_layersTaken_51 : decode cX2_layersTaken 51 = .ok (.goto (-46), 3) := by decide +kernel
theorem dX2_layersTaken_54 : decode cX2_layersTaken 54 = .ok (.lload_n 3, 1) := by decide +kernel
theorem dX2_layersTaken_55 : decode cX2_layersTaken 55 = .ok (.invokestatic 66, 3) := by decide +kernel
theorem dX2_layersTaken_58 : decode cX2_layersTaken 58 = .ok (.ireturn, 1) := by decide +kernel
theorem dX2_insertSorted_0 : decode cX2_insertSorted 0 = .ok (.iload_n 1, 1) := by decide +kernel
theorem dX2_insertSorted_1 : decode cX2_insertSorted 1 = .ok (.istore_n 3, 1) := by decide +kernel
theorem dX2_insertSorted_2 : decode cX2_insertSorted 2 = .ok (.iload_n 3, 1) := by decide +kernel
theorem dX2_insertSorted_3 : decode cX2_insertSorted 3 = .ok (.ifCond .le 26, 3) := by decide +kernel
theorem dX2_insertSorted_6 : decode cX2_insertSorted 6 = .ok (.aload_n 0, 1) := by decide +kernel
theorem dX2_insertSorted_7 : decode cX2_insertSorted 7 = .ok (.iload_n 3, 1) := by decide +kernel
theorem dX2_insertSorted_8 : decode cX2_insertSorted 8 = .ok (.iconst 1, 1) := by decide +kernel
theorem dX2_insertSorted_9 : decode cX2_insertSorted 9 = .ok (.isub, 1) := by decide +kernel
theorem dX2_insertSorted_10 : decode cX2_insertSorted 10 = .ok (.iaload, 1) := by decide +kernel
theorem dX2_insertSorted_11 : decode cX2_insertSorted 11 = .ok (.iload_n 2, 1) := by decide +kernel
theorem dX2_insertSorted_12 : decode cX2_insertSorted 12 = .ok (.if_icmp .le 17, 3) := by decide +kernel
theorem dX2_insertSorted_15 : decode cX2_insertSorted 15 = .ok (.aload_n 0, 1) := by decide +kernel
theorem dX2_insertSorted_16 : decode cX2_insertSorted 16 = .ok (.iload_n 3, 1) := by decide +kernel
theorem dX2_insertSorted_17 : decode cX2_insertSorted 17 = .ok (.aload_n 0, 1) := by decide +kernel
theorem dX2_insertSorted_18 : decode cX2_insertSorted 18 = .ok (.iload_n 3, 1) := by decide +kernel
theorem dX2_insertSorted_19 : decode cX2_insertSorted 19 = .ok (.iconst 1, 1) := by decide +kernel
theorem dX2_insertSorted_20 : decode cX2_insertSorted 20 = .ok (.isub, 1) := by decide +kernel
theorem dX2_insertSorted_21 : decode cX2_insertSorted 21 = .ok (.iaload, 1) := by decide +kernel
theorem dX2_insertSorted_22 : decode cX2_insertSorted 22 = .ok (.iastore, 1) := by decide +kernel
theorem dX2_insertSorted_23 : decode cX2_insertSorted 23 = .ok (.iinc 3 (-1), 3) := by decide +kernel
theorem dX2_insertSorted_26 : decode cX2_insertSorted 26 = .ok (.goto (-24), 3) := by decide +kernel
theorem dX2_insertSorted_29 : decode cX2_insertSorted 29 = .ok (.aload_n 0, 1) := by decide +kernel
theorem dX2_insertSorted_30 : decode cX2_insertSorted 30 = .ok (.iload_n 3, 1) := by decide +kernel
theorem dX2_insertSorted_31 : decode cX2_insertSorted 31 = .ok (.iload_n 2, 1) := by decide +kernel
theorem dX2_insertSorted_32 : decode cX2_insertSorted 32 = .ok (.iastore, 1) := by decide +kernel
theorem dX2_insertSorted_33 : decode cX2_insertSorted 33 = .ok (.return_, 1) := by decide +kernel
theorem dX3_init_0 : decode cX3_init 0 = .ok (.aload_n 0, 1) := by decide +kernel
theorem dX3_init_1 : decode cX3_init 1 = .ok (.invokespecial 3, 3) := by decide +kernel
theorem dX3_init_4 : decode cX3_init 4 = .ok (.aload_n 0, 1) := by decide +kernel
theorem dX3_init_5 : decode cX3_init 5 = .ok (.bipush 40, 2) := by decide +kernel
theorem dX3_init_7 : decode cX3_init 7 = .ok (.newarray .int, 2) := by decide +kernel
theorem dX3_init_9 : decode cX3_init 9 = .ok (.putfield 9, 3) := by decide +kernel
theorem dX3_init_12 : decode cX3_init 12 = .ok (.aload_n 0, 1) := by decide +kernel
theorem dX3_init_13 : decode cX3_init 13 = .ok (.bipush 40, 2) := by decide +kernel
theorem dX3_init_15 : decode cX3_init 15 = .ok (.newarray .int, 2) := by decide +kernel
theorem dX3_init_17 : decode cX3_init 17 = .ok (.putfield 15, 3) := by decide +kernel
theorem dX3_init_20 : decode cX3_init 20 = .ok (.aload_n 0, 1) := by decide +kernel
theorem dX3_init_21 : decode cX3_init 21 = .ok (.bipush 40, 2) := by decide +kernel
theorem dX3_init_23 : decode cX3_init 23 = .ok (.newarray .int, 2) := by decide +kernel
theorem dX3_init_25 : decode cX3_init 25 = .ok (.putfield 18, 3) := by decide +kernel
theorem dX3_init_28 : decode cX3_init 28 = .ok (.aload_n 0, 1) := by decide +kernel
theorem dX3_init_29 : decode cX3_init 29 = .ok (.bipush 40, 2) := by decide +kernel
theorem dX3_init_31 : decode cX3_init 31 = .ok (.newarray .int, 2) := by decide +kernel
theorem dX3_init_33 : decode cX3_init 33 = .ok (.putfield 21, 3) := by decide +kernel
theorem dX3_init_36 : decode cX3_init 36 = .ok (.aload_n 0, 1) := by decide +kernel
theorem dX3_init_37 : decode cX3_init 37 = .ok (.bipush 40, 2) := by decide +kernel
theorem dX3_init_39 : decode cX3_init 39 = .ok (.newarray .int, 2) := by decide +kernel
theorem dX3_init_41 : decode cX3_init 41 = .ok (.putfield 24, 3) := by decide +kernel
theorem dX3_init_44 : decode cX3_init 44 = .ok (.aload_n 0, 1) := by decide +kernel
theorem dX3_init_45 : decode cX3_init 45 = .ok (.iconst 4, 1) := by decide +kernel
theorem dX3_init_46 : decode cX3_init 46 = .ok (.bipush 40, 2) := by decide +kernel
theorem dX3_init_48 : decode cX3_init 48 = .ok (.multianewarray 27 2, 4) := by decide +kernel
theorem dX3_init_52 : decode cX3_init 52 = .ok (.putfield 29, 3) := by decide +kernel
theorem dX3_init_55 : decode cX3_init 55 = .ok (.return_, 1) := by decide +kernel
theorem dX3_append_0 : decode cX3_append 0 = .ok (.aload_n 0, 1) := by decide +kernel
theorem dX3_append_1 : decode cX3_append 1 = .ok (.getfield 32, 3) := by decide +kernel
theorem dX3_append_4 : decode cX3_append 4 = .ok (.istore 5, 2) := by decide +kernel
theorem dX3_append_6 : decode cX3_append 6 = .ok (.aload_n 0, 1) := by decide +kernel
theorem dX3_append_7 : decode cX3_append 7 = .ok (.getfield 9, 3) := by decide +kernel
theorem dX3_append_10 : decode cX3_append 10 = .ok (.iload 5, 2) := by decide +kernel
theorem dX3_append_12 : decode cX3_append 12 = .ok (.iload_n 1, 1) := by decide +kernel
theorem dX3_append_13 : decode cX3_append 13 = .ok (.iastore, 1) := by decide +kernel
theorem dX3_append_14 : decode cX3_append 14 = .ok (.aload_n 0, 1) := by decide +kernel
theorem dX3_append_15 : decode cX3_append 15 = .ok (.getfield 15, 3) := by decide +kernel
theorem dX3_append_18 : decode cX3_append 18 = .ok (.iload 5, 2) := by decide +kernel
theorem dX3_append_20 : decode cX3_append 20 = .ok (.iload_n 2, 1) := by decide +kernel
theorem dX3_append_21 : decode cX3_append 21 = .ok (.iastore, 1) := by decide +kernel
theorem dX3_append_22 : decode cX3_append 22 = .ok (.aload_n 0, 1) := by decide +kernel
theorem dX3_append_23 : decode cX3_append 23 = .ok (.getfield 18, 3) := by decide +kernel
theorem dX3_append_26 : decode cX3_append 26 = .ok (.iload 5, 2) := by decide +kernel
theorem dX3_append_28 : decode cX3_append 28 = .ok (.iload_n 3, 1) := by decide +kernel
theorem dX3_append_29 : decode cX3_append 29 = .ok (.iastore, 1) := by decide +kernel
theorem dX3_append_30 : decode cX3_append 30 = .ok (.aload_n 0, 1) := by decide +kernel
theorem dX3_append_31 : decode cX3_append 31 = .ok (.getfield 21, 3) := by decide +kernel
theorem dX3_append_34 : decode cX3_append 34 = .ok (.iload 5, 2) := by decide +kernel
theorem dX3_append_36 : decode cX3_append 36 = .ok (.iload 4, 2) := by decide +kernel
theorem dX3_append_38 : decode cX3_append 38 = .ok (.iastore, 1) := by decide +kernel
theorem dX3_append_39 : decode cX3_append 39 = .ok (.iconst 0, 1) := by decide +kernel
theorem dX3_append_40 : decode cX3_append 40 = .ok (.istore 6, 2) := by decide +kernel
theorem dX3_append_42 : decode cX3_append 42 = .ok (.iload 6, 2) := by decide +kernel
theorem dX3_append_44 : decode cX3_append 44 = .ok (.iconst 4, 1) := by decide +kernel
theorem dX3_append_45 : decode cX3_append 45 = .ok (.if_icmp .ge 21, 3) := by decide +kernel
theorem dX3_append_48 : decode cX3_append 48 = .ok (.aload_n 0, 1) := by decide +kernel
theorem dX3_append_49 : decode cX3_append 49 = .ok (.getfield 29, 3) := by decide +kernel
theorem dX3_append_52 : decode cX3_append 52 = .ok (.iload 6, 2) := by decide +kernel
theorem dX3_append_54 : decode cX3_append 54 = .ok (.aaload, 1) := by decide +kernel
theorem dX3_append_55 : decode cX3_append 55 = .ok (.iload 5, 2) := by decide +kernel
theorem dX3_append_57 : decode cX3_append 57 = .ok (.bipush 101, 2) := by decide +kernel
theorem dX3_append_59 : decode cX3_append 59 = .ok (.iastore, 1) := by decide +kernel
theorem dX3_append_60 : decode cX3_append 60 = .ok (.iinc 6 1, 3) := by decide +kernel
theorem dX3_append_63 : decode cX3_append 63 = .ok (.goto (-21), 3) := by decide +kernel
theorem dX3_append_66 : decode cX3_append 66 = .ok (.aload_n 0, 1) := by decide +kernel
theorem dX3_append_67 : decode cX3_append 67 = .ok (.dup, 1) := by decide +kernel
theorem dX3_append_68 : decode cX3_append 68 = .ok (.getfield 32, 3) := by decide +kernel
theorem dX3_append_71 : decode cX3_append 71 = .ok (.iconst 1, 1) := by decide +kernel
theorem dX3_append_72 : decode cX3_append 72 = .ok (.iadd, 1) := by decide +kernel
theorem dX3_append_73 : decode cX3_append 73 = .ok (.putfield 32, 3) := by decide +kernel
theorem dX3_append_76 : decode cX3_append 76 = .ok (.iload 5, 2) := by decide +kernel
theorem dX3_append_78 : decode cX3_append 78 = .ok (.ireturn, 1) := by decide +kernel
theorem dX3_drop_0 : decode cX3_drop 0 = .ok (.aload_n 0, 1) := by decide +kernel
theorem dX3_drop_1 : decode cX3_drop 1 = .ok (.aload_n 0, 1) := by decide +kernel
theorem dX3_drop_2 : decode cX3_drop 2 = .ok (.getfield 9, 3) := by decide +kernel
theorem dX3_drop_5 : decode cX3_drop 5 = .ok (.iload_n 1, 1) := by decide +kernel
theorem dX3_drop_6 : decode cX3_drop 6 = .ok (.invokevirtual 36, 3) := by decide +kernel
theorem dX3_drop_9 : decode cX3_drop 9 = .ok (.aload_n 0, 1) := by decide +kernel
theorem dX3_drop_10 : decode cX3_drop 10 = .ok (.aload_n 0, 1) := by decide +kernel
theorem dX3_drop_11 : decode cX3_drop 11 = .ok (.getfield 15, 3) := by decide +kernel
theorem dX3_drop_14 : decode cX3_drop 14 = .ok (.iload_n 1, 1) := by decide +kernel
theorem dX3_drop_15 : decode cX3_drop 15 = .ok (.invokevirtual 36, 3) := by decide +kernel
theorem dX3_drop_18 : decode cX3_drop 18 = .ok (.aload_n 0, 1) := by decide +kernel
theorem dX3_drop_19 : decode cX3_drop 19 = .ok (.aload_n 0, 1) := by decide +kernel
theorem dX3_drop_20 : decode cX3_drop 20 = .ok (.getfield 18, 3) := by decide +kernel
theorem dX3_drop_23 : decode cX3_drop 23 = .ok (.iload_n 1, 1) := by decide +kernel
theorem dX3_drop_24 : decode cX3_drop 24 = .ok (.invokevirtual 36, 3) := by decide +kernel
theorem dX3_drop_27 : decode cX3_drop 27 = .ok (.aload_n 0, 1) := by decide +kernel
theorem dX3_drop_28 : decode cX3_drop 28 = .ok (.aload_n 0, 1) := by decide +kernel
theorem dX3_drop_29 : decode cX3_drop 29 = .ok (.getfield 21, 3) := by decide +kernel
theorem dX3_drop_32 : decode cX3_drop 32 = .ok (.iload_n 1, 1) := by decide +kernel
theorem dX3_drop_33 : decode cX3_drop 33 = .ok (.invokevirtual 36, 3) := by decide +kernel
theorem dX3_drop_36 : decode cX3_drop 36 = .ok (.iconst 0, 1) := by decide +kernel
theorem dX3_drop_37 : decode cX3_drop 37 = .ok (.istore_n 2, 1) := by decide +kernel
theorem dX3_drop_38 : decode cX3_drop 38 = .ok (.iload_n 2, 1) := by decide +kernel
theorem dX3_drop_39 : decode cX3_drop 39 = .ok (.iconst 4, 1) := by decide +kernel
theorem dX3_drop_40 : decode cX3_drop 40 = .ok (.if_icmp .ge 20, 3) := by decide +kernel
theorem dX3_drop_43 : decode cX3_drop 43 = .ok (.aload_n 0, 1) := by decide +kernel
theorem dX3_drop_44 : decode cX3_drop 44 = .ok (.aload_n 0, 1) := by decide +kernel
theorem dX3_drop_45 : decode cX3_drop 45 = .ok (.getfield 29, 3) := by decide +kernel
theorem dX3_drop_48 : decode cX3_drop 48 = .ok (.iload_n 2, 1) := by decide +kernel
theorem dX3_drop_49 : decode cX3_drop 49 = .ok (.aaload, 1) := by decide +kernel
theorem dX3_drop_50 : decode cX3_drop 50 = .ok (.iload_n 1, 1) := by decide +kernel
theorem dX3_drop_51 : decode cX3_drop 51 = .ok (.invokevirtual 36, 3) := by decide +kernel
theorem dX3_drop_54 : decode cX3_drop 54 = .ok (.iinc 2 1, 3) := by decide +kernel
theorem dX3_drop_57 : decode cX3_drop 57 = .ok (.goto (-19), 3) := by decide +kernel
theorem dX3_drop_60 : decode cX3_drop 60 = .ok (.aload_n 0, 1) := by decide +kernel
theorem dX3_drop_61 : decode cX3_drop 61 = .ok (.dup, 1) := by decide +kernel
theorem dX3_drop_62 : decode cX3_drop 62 = .ok (.getfield 32, 3) := by decide +kernel
theorem dX3_drop_65 : decode cX3_drop 65 = .ok (.iconst 1, 1) := by decide +kernel
theorem dX3_drop_66 : decode cX3_drop 66 = .ok (.isub, 1) := by decide +kernel
theorem dX3_drop_67 : decode cX3_drop 67 = .ok (.putfield 32, 3) := by decide +kernel
theorem dX3_drop_70 : decode cX3_drop 70 = .ok (.return_, 1) := by decide +kernel
theorem dX3_countTold_0 : decode cX3_countTold 0 = .ok (.iconst 0, 1) := by decide +kernel
theorem dX3_countTold_1 : decode cX3_countTold 1 = .ok (.istore_n 2, 1) := by decide +kernel
theorem dX3_countTold_2 : decode cX3_countTold 2 = .ok (.iconst 0, 1) := by decide +kernel
theorem dX3_countTold_3 : decode cX3_countTold 3 = .ok (.istore_n 3, 1) := by decide +kernel
theorem dX3_countTold_4 : decode cX3_countTold 4 = .ok (.iload_n 3, 1) := by decide +kernel
theorem dX3_countTold_5 : decode cX3_countTold 5 = .ok (.aload_n 0, 1) := by decide +kernel
theorem dX3_countTold_6 : decode cX3_countTold 6 = .ok (.getfield 32, 3) := by decide +kernel
theorem dX3_countTold_9 : decode cX3_countTold 9 = .ok (.if_icmp .ge 25, 3) := by decide +kernel
theorem dX3_countTold_12 : decode cX3_countTold 12 = .ok (.aload_n 0, 1) := by decide +kernel
theorem dX3_countTold_13 : decode cX3_countTold 13 = .ok (.getfield 29, 3) := by decide +kernel
theorem dX3_countTold_16 : decode cX3_countTold 16 = .ok (.iload_n 1, 1) := by decide +kernel
theorem dX3_countTold_17 : decode cX3_countTold 17 = .ok (.aaload, 1) := by decide +kernel
theorem dX3_countTold_18 : decode cX3_countTold 18 = .ok (.iload_n 3, 1) := by decide +kernel
theorem dX3_countTold_19 : decode cX3_countTold 19 = .ok (.iaload, 1) := by decide +kernel
theorem dX3_countTold_20 : decode cX3_countTold 20 = .ok (.bipush 101, 2) := by decide +kernel
theorem dX3_countTold_22 : decode cX3_countTold 22 = .ok (.if_icmp .eq 6, 3) := by decide +kernel
theorem dX3_countTold_25 : decode cX3_countTold 25 = .ok (.iinc 2 1, 3) := by decide +kernel
theorem dX3_countTold_28 : decode cX3_countTold 28 = .ok (.iinc 3 1, 3) := by decide +kernel
theorem dX3_countTold_31 : decode cX3_countTold 31 = .ok (.goto (-27), 3) := by decide +kernel
theorem dX3_countTold_34 : decode cX3_countTold 34 = .ok (.iload_n 2, 1) := by decide +kernel
theorem dX3_countTold_35 : decode cX3_countTold 35 = .ok (.ireturn, 1) := by decide +kernel
theorem dX3_takeOver_0 : decode cX3_takeOver 0 = .ok (.iconst 0, 1) := by decide +kernel
theorem dX3_takeOver_1 : decode cX3_takeOver 1 = .ok (.istore_n 2, 1) := by decide +kernel
theorem dX3_takeOver_2 : decode cX3_takeOver 2 = .ok (.iconst 0, 1) := by decide +kernel
theorem dX3_takeOver_3 : decode cX3_takeOver 3 = .ok (.istore_n 3, 1) := by decide +kernel
theorem dX3_takeOver_4 : decode cX3_takeOver 4 = .ok (.iload_n 3, 1) := by decide +kernel
theorem dX3_takeOver_5 : decode cX3_takeOver 5 = .ok (.aload_n 0, 1) := by decide +kernel
theorem dX3_takeOver_6 : decode cX3_takeOver 6 = .ok (.getfield 32, 3) := by decide +kernel
theorem dX3_takeOver_9 : decode cX3_takeOver 9 = .ok (.if_icmp .ge 48, 3) := by decide +kernel
theorem dX3_takeOver_12 : decode cX3_takeOver 12 = .ok (.aload_n 0, 1) := by decide +kernel
theorem dX3_takeOver_13 : decode cX3_takeOver 13 = .ok (.getfield 29, 3) := by decide +kernel
theorem dX3_takeOver_16 : decode cX3_takeOver 16 = .ok (.iload_n 1, 1) := by decide +kernel
theorem dX3_takeOver_17 : decode cX3_takeOver 17 = .ok (.aaload, 1) := by decide +kernel
theorem dX3_takeOver_18 : decode cX3_takeOver 18 = .ok (.iload_n 3, 1) := by decide +kernel
theorem dX3_takeOver_19 : decode cX3_takeOver 19 = .ok (.iaload, 1) := by decide +kernel
theorem dX3_takeOver_20 : decode cX3_takeOver 20 = .ok (.istore 4, 2) := by decide +kernel
theorem dX3_takeOver_22 : decode cX3_takeOver 22 = .ok (.iload 4, 2) := by decide +kernel
theorem dX3_takeOver_24 : decode cX3_takeOver 24 = .ok (.bipush 101, 2) := by decide +kernel
theorem dX3_takeOver_26 : decode cX3_takeOver 26 = .ok (.if_icmp .eq 25, 3) := by decide +kernel
theorem dX3_takeOver_29 : decode cX3_takeOver 29 = .ok (.iload 4, 2) := by decide +kernel
theorem dX3_takeOver_31 : decode cX3_takeOver 31 = .ok (.aload_n 0, 1) := by decide +kernel
theorem dX3_takeOver_32 : decode cX3_takeOver 32 = .ok (.getfield 21, 3) := by decide +kernel
theorem dX3_takeOver_35 : decode cX3_takeOver 35 = .ok (.iload_n 3, 1) := by decide +kernel
theorem dX3_takeOver_36 : decode cX3_takeOver 36 = .ok (.iaload, 1) := by decide +kernel
theorem dX3_takeOver_37 : decode cX3_takeOver 37 = .ok (.if_icmp .eq 14, 3) := by decide +kernel
theorem dX3_takeOver_40 : decode cX3_takeOver 40 = .ok (.aload_n 0, 1) := by decide +kernel
theorem dX3_takeOver_41 : decode cX3_takeOver 41 = .ok (.getfield 21, 3) := by decide +kernel
theorem dX3_takeOver_44 : decode cX3_takeOver 44 = .ok (.iload_n 3, 1) := by decide +kernel
theorem dX3_takeOver_45 : decode cX3_takeOver 45 = .ok (.iload 4, 2) := by decide +kernel
theorem dX3_takeOver_47 : decode cX3_takeOver 47 = .ok (.iastore, 1) := by decide +kernel
theorem dX3_takeOver_48 : decode cX3_takeOver 48 = .ok (.iinc 2 1, 3) := by decide +kernel
theorem dX3_takeOver_51 : decode cX3_takeOver 51 = .ok (.iinc 3 1, 3) := by decide +kernel
theorem dX3_takeOver_54 : decode cX3_takeOver 54 = .ok (.goto (-50), 3) := by decide +kernel
theorem dX3_takeOver_57 : decode cX3_takeOver 57 = .ok (.iload_n 2, 1) := by decide +kernel
theorem dX3_takeOver_58 : decode cX3_takeOver 58 = .ok (.ireturn, 1) := by decide +kernel
theorem dX3_closeGap_0 : decode cX3_closeGap 0 = .ok (.aload_n 1, 1) := by decide +kernel
theorem dX3_closeGap_1 : decode cX3_closeGap 1 = .ok (.iload_n 2, 1) := by decide +kernel
theorem dX3_closeGap_2 : decode cX3_closeGap 2 = .ok (.iconst 1, 1) := by decide +kernel
theorem dX3_closeGap_3 : decode cX3_closeGap 3 = .ok (.iadd, 1) := by decide +kernel
theorem dX3_closeGap_4 : decode cX3_closeGap 4 = .ok (.aload_n 1, 1) := by decide +kernel
theorem dX3_closeGap_5 : decode cX3_closeGap 5 = .ok (.iload_n 2, 1) := by decide +kernel
theorem dX3_closeGap_6 : decode cX3_closeGap 6 = .ok (.aload_n 0, 1) := by decide +kernel
theorem dX3_closeGap_7 : decode cX3_closeGap 7 = .ok (.getfield 32, 3) := by decide +kernel
theorem dX3_closeGap_10 : decode cX3_closeGap 10 = .ok (.iload_n 2, 1) := by decide +kernel
theorem dX3_closeGap_11 : decode cX3_closeGap 11 = .ok (.isub, 1) := by decide +kernel
theorem dX3_closeGap_12 : decode cX3_closeGap 12 = .ok (.iconst 1, 1) := by decide +kernel
theorem dX3_closeGap_13 : decode cX3_closeGap 13 = .ok (.isub, 1) := by decide +kernel
theorem dX3_closeGap_14 : decode cX3_closeGap 14 = .ok (.invokestatic 40, 3) := by decide +kernel
theorem dX3_closeGap_17 : decode cX3_closeGap 17 = .ok (.return_, 1) := by decide +kernel
