/-! decode rows of LadderScanModel -/
theorem dMo_init_0 : decode bMo_init 0 = .ok (.aload_n 0, 1) := by decide +kernel
theorem dMo_init_1 : decode bMo_init 1 = .ok (.invokespecial 1, 3) := by decide +kernel
theorem dMo_init_4 : decode bMo_init 4 = .ok (.aload_n 0, 1) := by decide +kernel
theorem dMo_init_5 : decode bMo_init 5 = .ok (.bipush 32, 2) := by decide +kernel
theorem dMo_init_7 : decode bMo_init 7 = .ok (.newarray .int, 2) := by decide +kernel
theorem dMo_init_9 : decode bMo_init 9 = .ok (.putfield 7, 3) := by decide +kernel
theorem dMo_init_12 : decode bMo_init 12 = .ok (.aload_n 0, 1) := by decide +kernel
theorem dMo_init_13 : decode bMo_init 13 = .ok (.bipush 32, 2) := by decide +kernel
theorem dMo_init_15 : decode bMo_init 15 = .ok (.newarray .int, 2) := by decide +kernel
theorem dMo_init_17 : decode bMo_init 17 = .ok (.putfield 13, 3) := by decide +kernel
theorem dMo_init_20 : decode bMo_init 20 = .ok (.aload_n 0, 1) := by decide +kernel
theorem dMo_init_21 : decode bMo_init 21 = .ok (.bipush 8, 2) := by decide +kernel
theorem dMo_init_23 : decode bMo_init 23 = .ok (.newarray .int, 2) := by decide +kernel
theorem dMo_init_25 : decode bMo_init 25 = .ok (.putfield 16, 3) := by decide +kernel
theorem dMo_init_28 : decode bMo_init 28 = .ok (.aload_n 0, 1) := by decide +kernel
theorem dMo_init_29 : decode bMo_init 29 = .ok (.bipush 8, 2) := by decide +kernel
theorem dMo_init_31 : decode bMo_init 31 = .ok (.newarray .int, 2) := by decide +kernel
theorem dMo_init_33 : decode bMo_init 33 = .ok (.putfield 19, 3) := by decide +kernel
theorem dMo_init_36 : decode bMo_init 36 = .ok (.aload_n 0, 1) := by decide +kernel
theorem dMo_init_37 : decode bMo_init 37 = .ok (.bipush 8, 2) := by decide +kernel
theorem dMo_init_39 : decode bMo_init 39 = .ok (.newarray .long, 2) := by decide +kernel
theorem dMo_init_41 : decode bMo_init 41 = .ok (.putfield 22, 3) := by decide +kernel
theorem dMo_init_44 : decode bMo_init 44 = .ok (.aload_n 0, 1) := by decide +kernel
theorem dMo_init_45 : decode bMo_init 45 = .ok (.bipush 10, 2) := by decide +kernel
theorem dMo_init_47 : decode bMo_init 47 = .ok (.newarray .int, 2) := by decide +kernel
theorem dMo_init_49 : decode bMo_init 49 = .ok (.putfield 26, 3) := by decide +kernel
theorem dMo_init_52 : decode bMo_init 52 = .ok (.aload_n 0, 1) := by decide +kernel
theorem dMo_init_53 : decode bMo_init 53 = .ok (.bipush 10, 2) := by decide +kernel
theorem dMo_init_55 : decode bMo_init 55 = .ok (.newarray .int, 2) := by decide +kernel
theorem dMo_init_57 : decode bMo_init 57 = .ok (.putfield 29, 3) := by decide +kernel
theorem dMo_init_60 : decode bMo_init 60 = .ok (.aload_n 0, 1) := by decide +kernel
theorem dMo_init_61 : decode bMo_init 61 = .ok (.bipush 10, 2) := by decide +kernel
theorem dMo_init_63 : decode bMo_init 63 = .ok (.newarray .int, 2) := by decide +kernel
theorem dMo_init_65 : decode bMo_init 65 = .ok (.putfield 32, 3) := by decide +kernel
theorem dMo_init_68 : decode bMo_init 68 = .ok (.aload_n 0, 1) := by decide +kernel
theorem dMo_init_69 : decode bMo_init 69 = .ok (.bipush 10, 2) := by decide +kernel
theorem dMo_init_71 : decode bMo_init 71 = .ok (.newarray .long, 2) := by decide +kernel
theorem dMo_init_73 : decode bMo_init 73 = .ok (.putfield 35, 3) := by decide +kernel
theorem dMo_init_76 : decode bMo_init 76 = .ok (.aload_n 0, 1) := by decide +kernel
theorem dMo_init_77 : decode bMo_init 77 = .ok (.bipush 10, 2) := by decide +kernel
theorem dMo_init_79 : decode bMo_init 79 = .ok (.newarray .long, 2) := by decide +kernel
theorem dMo_init_81 : decode bMo_init 81 = .ok (.putfield 38, 3) := by decide +kernel
theorem dMo_init_84 : decode bMo_init 84 = .ok (.aload_n 0, 1) := by decide +kernel
theorem dMo_init_85 : decode bMo_init 85 = .ok (.bipush 10, 2) := by decide +kernel
theorem dMo_init_87 : decode bMo_init 87 = .ok (.newarray .int, 2) := by decide +kernel
theorem dMo_init_89 : decode bMo_init 89 = .ok (.putfield 41, 3) := by decide +kernel
theorem dMo_init_92 : decode bMo_init 92 = .ok (.aload_n 0, 1) := by decide +kernel
theorem dMo_init_93 : decode bMo_init 93 = .ok (.bipush 10, 2) := by decide +kernel
theorem dMo_init_95 : decode bMo_init 95 = .ok (.newarray .int, 2) := by decide +kernel
theorem dMo_init_97 : decode bMo_init 97 = .ok (.putfield 44, 3) := by decide +kernel
theorem dMo_init_100 : decode bMo_init 100 = .ok (.aload_n 0, 1) := by decide +kernel
theorem dMo_init_101 : decode bMo_init 101 = .ok (.bipush 10, 2) := by decide +kernel
theorem dMo_init_103 : decode bMo_init 103 = .ok (.newarray .int, 2) := by decide +kernel
theorem dMo_init_105 : decode bMo_init 105 = .ok (.putfield 47, 3) := by decide +kernel
theorem dMo_init_108 : decode bMo_init 108 = .ok (.aload_n 0, 1) := by decide +kernel
theorem dMo_init_109 : decode bMo_init 109 = .ok (.bipush 120, 2) := by decide +kernel
theorem dMo_init_111 : decode bMo_init 111 = .ok (.newarray .int, 2) := by decide +kernel
theorem dMo_init_113 : decode bMo_init 113 = .ok (.putfield 50, 3) := by decide +kernel
theorem dMo_init_116 : decode bMo_init 116 = .ok (.aload_n 0, 1) := by decide +kernel
theorem dMo_init_117 : decode bMo_init 117 = .ok (.bipush 120, 2) := by decide +kernel
theorem dMo_init_119 : decode bMo_init 119 = .ok (.newarray .int, 2) := by decide +kernel
theorem dMo_init_121 : decode bMo_init 121 = .ok (.putfield 53, 3) := by decide +kernel
theorem dMo_init_124 : decode bMo_init 124 = .ok (.aload_n 0, 1) := by decide +kernel
theorem dMo_init_125 : decode bMo_init 125 = .ok (.bipush 12, 2) := by decide +kernel
theorem dMo_init_127 : decode bMo_init 127 = .ok (.newarray .int, 2) := by decide +kernel
theorem dMo_init_129 : decode bMo_init 129 = .ok (.putfield 56, 3) := by decide +kernel
theorem dMo_init_132 : decode bMo_init 132 = .ok (.aload_n 0, 1) := by decide +kernel
theorem dMo_init_133 : decode bMo_init 133 = .ok (.bipush 12, 2) := by decide +kernel
theorem dMo_init_135 : decode bMo_init 135 = .ok (.newarray .int, 2) := by decide +kernel
theorem dMo_init_137 : decode bMo_init 137 = .ok (.putfield 59, 3) := by decide +kernel
theorem dMo_init_140 : decode bMo_init 140 = .ok (.aload_n 0, 1) := by decide +kernel
theorem dMo_init_141 : decode bMo_init 141 = .ok (.bipush 120, 2) := by decide +kernel
theorem dMo_init_143 : decode bMo_init 143 = .ok (.newarray .int, 2) := by decide +kernel
theorem dMo_init_145 : decode bMo_init 145 = .ok (.putfield 62, 3) := by decide +kernel
theorem dMo_init_148 : decode bMo_init 148 = .ok (.aload_n 0, 1) := by decide +kernel
theorem dMo_init_149 : decode bMo_init 149 = .ok (.bipush 120, 2) := by decide +kernel
theorem dMo_init_151 : decode bMo_init 151 = .ok (.newarray .int, 2) := by decide +kernel
theorem dMo_init_153 : decode bMo_init 153 = .ok (.putfield 65, 3) := by decide +kernel
theorem dMo_init_156 : decode bMo_init 156 = .ok (.aload_n 0, 1) := by decide +kernel
theorem dMo_init_157 : decode bMo_init 157 = .ok (.bipush 12, 2) := by decide +kernel
theorem dMo_init_159 : decode bMo_init 159 = .ok (.newarray .int, 2) := by decide +kernel
theorem dMo_init_161 : decode bMo_init 161 = .ok (.putfield 68, 3) := by decide +kernel
theorem dMo_init_164 : decode bMo_init 164 = .ok (.aload_n 0, 1) := by decide +kernel
theorem dMo_init_165 : decode bMo_init 165 = .ok (.iconst 5, 1) := by decide +kernel
theorem dMo_init_166 : decode bMo_init 166 = .ok (.newarray .int, 2) := by decide +kernel
theorem dMo_init_168 : decode bMo_init 168 = .ok (.putfield 71, 3) := by decide +kernel
theorem dMo_init_171 : decode bMo_init 171 = .ok (.iconst 0, 1) := by decide +kernel
theorem dMo_init_172 : decode bMo_init 172 = .ok (.istore_n 1, 1) := by decide +kernel
theorem dMo_init_173 : decode bMo_init 173 = .ok (.iload_n 1, 1) := by decide +kernel
theorem dMo_init_174 : decode bMo_init 174 = .ok (.bipush 32, 2) := by decide +kernel
theorem dMo_init_176 : decode bMo_init 176 = .ok (.if_icmp .ge 16, 3) := by decide +kernel
theorem dMo_init_179 : decode bMo_init 179 = .ok (.aload_n 0, 1) := by decide +kernel
theorem dMo_init_180 : decode bMo_init 180 = .ok (.getfield 13, 3) := by decide +kernel
theorem dMo_init_183 : decode bMo_init 183 = .ok (.iload_n 1, 1) := by decide +kernel
theorem dMo_init_184 : decode bMo_init 184 = .ok (.iconst (-1), 1) := by decide +kernel
theorem dMo_init_185 : decode bMo_init 185 = .ok (.iastore, 1) := by decide +kernel
theorem dMo_init_186 : decode bMo_init 186 = .ok (.iinc 1 1, 3) := by decide +kernel
theorem dMo_init_189 : decode bMo_init 189 = .ok (.goto (-16), 3) := by decide +kernel
theorem dMo_init_192 : decode bMo_init 192 = .ok (.return_, 1) := by decide +kernel
theorem dMo_thrown_0 : decode bMo_thrown 0 = .ok (.aload_n 0, 1) := by decide +kernel
theorem dMo_thrown_1 : decode bMo_thrown 1 = .ok (.getfield 74, 3) := by decide +kernel
theorem dMo_thrown_4 : decode bMo_thrown 4 = .ok (.ireturn, 1) := by decide +kernel
theorem dMo_raise_0 : decode bMo_raise 0 = .ok (.aload_n 0, 1) := by decide +kernel
theorem dMo_raise_1 : decode bMo_raise 1 = .ok (.iload_n 1, 1) := by decide +kernel
theorem dMo_raise_2 : decode bMo_raise 2 = .ok (.putfield 74, 3) := by decide +kernel
theorem dMo_raise_5 : decode bMo_raise 5 = .ok (.iconst 0, 1) := by decide +kernel
theorem dMo_raise_6 : decode bMo_raise 6 = .ok (.ireturn, 1) := by decide +kernel
theorem dMo_in_0 : decode bMo_in 0 = .ok (.iload_n 0, 1) := by decide +kernel
theorem dMo_in_1 : decode bMo_in 1 = .ok (.iload_n 1, 1) := by decide +kernel
theorem dMo_in_2 : decode bMo_in 2 = .ok (.if_icmp .lt 12, 3) := by decide +kernel
theorem dMo_in_5 : decode bMo_in 5 = .ok (.iload_n 0, 1) := by decide +kernel
theorem dMo_in_6 : decode bMo_in 6 = .ok (.iload_n 2, 1) := by decide +kernel
theorem dMo_in_7 : decode bMo_in 7 = .ok (.if_icmp .gt 7, 3) := by decide +kernel
theorem dMo_in_10 : decode bMo_in 10 = .ok (.iconst 1, 1) := by decide +kernel
theorem dMo_in_11 : decode bMo_in 11 = .ok (.goto 4, 3) := by decide +kernel
theorem dMo_in_14 : decode bMo_in 14 = .ok (.iconst 0, 1) := by decide +kernel
theorem dMo_in_15 : decode bMo_in 15 = .ok (.ireturn, 1) := by decide +kernel
theorem dMo_number_0 : decode bMo_number 0 = .ok (.dload_n 0, 1) := by decide +kernel
theorem dMo_number_1 : decode bMo_number 1 = .ok (.ldc2_w 78, 3) := by decide +kernel
theorem dMo_number_4 : decode bMo_number 4 = .ok (.dcmp .l, 1) := by decide +kernel
theorem dMo_number_5 : decode bMo_number 5 = .ok (.ifCond .lt 15, 3) := by decide +kernel
theorem dMo_number_8 : decode bMo_number 8 = .ok (.dload_n 0, 1) := by decide +kernel
theorem dMo_number_9 : decode bMo_number 9 = .ok (.ldc2_w 80, 3) := by decide +kernel
theorem dMo_number_12 : decode bMo_number 12 = .ok (.dcmp .g, 1) := by decide +kernel
theorem dMo_number_13 : decode bMo_number 13 = .ok (.ifCond .gt 7, 3) := by decide +kernel
theorem dMo_number_16 : decode bMo_number 16 = .ok (.iconst 1, 1) := by decide +kernel
theorem dMo_number_17 : decode bMo_number 17 = .ok (.goto 4, 3) := by decide +kernel
theorem dMo_number_20 : decode bMo_number 20 = .ok (.iconst 0, 1) := by decide +kernel
theorem dMo_number_21 : decode bMo_number 21 = .ok (.ireturn, 1) := by decide +kernel
theorem dMo_eighths_0 : decode bMo_eighths 0 = .ok (.dload_n 0, 1) := by decide +kernel
theorem dMo_eighths_1 : decode bMo_eighths 1 = .ok (.ldc2_w 82, 3) := by decide +kernel
theorem dMo_eighths_4 : decode bMo_eighths 4 = .ok (.dmul, 1) := by decide +kernel
theorem dMo_eighths_5 : decode bMo_eighths 5 = .ok (.d2l, 1) := by decide +kernel
theorem dMo_eighths_6 : decode bMo_eighths 6 = .ok (.lstore_n 2, 1) := by decide +kernel
theorem dMo_eighths_7 : decode bMo_eighths 7 = .ok (.lload_n 2, 1) := by decide +kernel
theorem dMo_eighths_8 : decode bMo_eighths 8 = .ok (.l2d, 1) := by decide +kernel
theorem dMo_eighths_9 : decode bMo_eighths 9 = .ok (.dload_n 0, 1) := by decide +kernel
theorem dMo_eighths_10 : decode bMo_eighths 10 = .ok (.ldc2_w 82, 3) := by decide +kernel
theorem dMo_eighths_13 : decode bMo_eighths 13 = .ok (.dmul, 1) := by decide +kernel
theorem dMo_eighths_14 : decode bMo_eighths 14 = .ok (.dcmp .l, 1) := by decide +kernel
theorem dMo_eighths_15 : decode bMo_eighths 15 = .ok (.ifCond .le 9, 3) := by decide +kernel
theorem dMo_eighths_18 : decode bMo_eighths 18 = .ok (.lload_n 2, 1) := by decide +kernel
theorem dMo_eighths_19 : decode bMo_eighths 19 = .ok (.lconst 1, 1) := by decide +kernel
theorem dMo_eighths_20 : decode bMo_eighths 20 = .ok (.lsub, 1) := by decide +kernel
theorem dMo_eighths_21 : decode bMo_eighths 21 = .ok (.goto 4, 3) := by decide +kernel
theorem dMo_eighths_24 : decode bMo_eighths 24 = .ok (.lload_n 2, 1) := by decide +kernel
theorem dMo_eighths_25 : decode bMo_eighths 25 = .ok (.lreturn, 1) := by decide +kernel
theorem dMo_whole_0 : decode bMo_whole 0 = .ok (.dload_n 0, 1) := by decide +kernel
theorem dMo_whole_1 : decode bMo_whole 1 = .ok (.ldc2_w 82, 3) := by decide +kernel
theorem dMo_whole_4 : decode bMo_whole 4 = .ok (.dmul, 1) := by decide +kernel
theorem dMo_whole_5 : decode bMo_whole 5 = .ok (.dload_n 0, 1) := by decide +kernel
theorem dMo_whole_6 : decode bMo_whole 6 = .ok (.ldc2_w 82, 3) := by decide +kernel
theorem dMo_whole_9 : decode bMo_whole 9 = .ok (.dmul, 1) := by decide +kernel
theorem dMo_whole_10 : decode bMo_whole 10 = .ok (.d2l, 1) := by decide +kernel
theorem dMo_whole_11 : decode bMo_whole 11 = .ok (.l2d, 1) := by decide +kernel
theorem dMo_whole_12 : decode bMo_whole 12 = .ok (.dcmp .l, 1) := by decide +kernel
theorem dMo_whole_13 : decode bMo_whole 13 = .ok (.ifCond .ne 7, 3) := by decide +kernel
theorem dMo_whole_16 : decode bMo_whole 16 = .ok (.iconst 1, 1) := by decide +kernel
theorem dMo_whole_17 : decode bMo_whole 17 = .ok (.goto 4, 3) := by decide +kernel
theorem dMo_whole_20 : decode bMo_whole 20 = .ok (.iconst 0, 1) := by decide +kernel
theorem dMo_whole_21 : decode bMo_whole 21 = .ok (.ireturn, 1) := by decide +kernel
theorem dMo_down_0 : decode bMo_down 0 = .ok (.lload_n 0, 1) := by decide +kernel
theorem dMo_down_1 : decode bMo_down 1 = .ok (.lload_n 2, 1) := by decide +kernel
theorem dMo_down_2 : decode bMo_down 2 = .ok (.ldiv, 1) := by decide +kernel
theorem dMo_down_3 : decode bMo_down 3 = .ok (.lload_n 0, 1) := by decide +kernel
theorem dMo_down_4 : decode bMo_down 4 = .ok (.lload_n 2, 1) := by decide +kernel
theorem dMo_down_5 : decode bMo_down 5 = .ok (.lrem, 1) := by decide +kernel
theorem dMo_down_6 : decode bMo_down 6 = .ok (.lconst 0, 1) := by decide +kernel
theorem dMo_down_7 : decode bMo_down 7 = .ok (.lcmp, 1) := by decide +kernel
theorem dMo_down_8 : decode bMo_down 8 = .ok (.ifCond .eq 32, 3) := by decide +kernel
theorem dMo_down_11 : decode bMo_down 11 = .ok (.lload_n 0, 1) := by decide +kernel
theorem dMo_down_12 : decode bMo_down 12 = .ok (.lconst 0, 1) := by decide +kernel
theorem dMo_down_13 : decode bMo_down 13 = .ok (.lcmp, 1) := by decide +kernel
theorem dMo_down_14 : decode bMo_down 14 = .ok (.ifCond .ge 7, 3) := by decide +kernel
theorem dMo_down_17 : decode bMo_down 17 = .ok (.iconst 1, 1) := by decide +kernel
theorem dMo_down_18 : decode bMo_down 18 = .ok (.goto 4, 3) := by decide +kernel
theorem dMo_down_21 : decode bMo_down 21 = .ok (.iconst 0, 1) := by decide +kernel
theorem dMo_down_22 : decode bMo_down 22 = .ok (.lload_n 2, 1) := by decide +kernel
theorem dMo_down_23 : decode bMo_down 23 = .ok (.lconst 0, 1) := by decide +kernel
theorem dMo_down_24 : decode bMo_down 24 = .ok (.lcmp, 1) := by decide +kernel
theorem dMo_down_25 : decode bMo_down 25 = .ok (.ifCond .ge 7, 3) := by decide +kernel
theorem dMo_down_28 : decode bMo_down 28 = .ok (.iconst 1, 1) := by decide +kernel
theorem dMo_down_29 : decode bMo_down 29 = .ok (.goto 4, 3) := by decide +kernel
theorem dMo_down_32 : decode bMo_down 32 = .ok (.iconst 0, 1) := by decide +kernel
theorem dMo_down_33 : decode bMo_down 33 = .ok (.if_icmp .eq 7, 3) := by decide +kernel
theorem dMo_down_36 : decode bMo_down 36 = .ok (.iconst 1, 1) := by decide +kernel
theorem dMo_down_37 : decode bMo_down 37 = .ok (.goto 4, 3) := by decide +kernel
theorem dMo_down_40 : decode bMo_down 40 = .ok (.iconst 0, 1) := by decide +kernel
theorem dMo_down_41 : decode bMo_down 41 = .ok (.i2l, 1) := by decide +kernel
theorem dMo_down_42 : decode bMo_down 42 = .ok (.lsub, 1) := by decide +kernel
theorem dMo_down_43 : decode bMo_down 43 = .ok (.lreturn, 1) := by decide +kernel
theorem dMo_fit_0 : decode bMo_fit 0 = .ok (.lload_n 0, 1) := by decide +kernel
theorem dMo_fit_1 : decode bMo_fit 1 = .ok (.ldc2_w 84, 3) := by decide +kernel
theorem dMo_fit_4 : decode bMo_fit 4 = .ok (.lcmp, 1) := by decide +kernel
theorem dMo_fit_5 : decode bMo_fit 5 = .ok (.ifCond .ge 9, 3) := by decide +kernel
theorem dMo_fit_8 : decode bMo_fit 8 = .ok (.ldc2_w 84, 3) := by decide +kernel
theorem dMo_fit_11 : decode bMo_fit 11 = .ok (.goto 18, 3) := by decide +kernel
theorem dMo_fit_14 : decode bMo_fit 14 = .ok (.lload_n 0, 1) := by decide +kernel
theorem dMo_fit_15 : decode bMo_fit 15 = .ok (.ldc2_w 86, 3) := by decide +kernel
theorem dMo_fit_18 : decode bMo_fit 18 = .ok (.lcmp, 1) := by decide +kernel
theorem dMo_fit_19 : decode bMo_fit 19 = .ok (.ifCond .le 9, 3) := by decide +kernel
theorem dMo_fit_22 : decode bMo_fit 22 = .ok (.ldc2_w 86, 3) := by decide +kernel
theorem dMo_fit_25 : decode bMo_fit 25 = .ok (.goto 4, 3) := by decide +kernel
theorem dMo_fit_28 : decode bMo_fit 28 = .ok (.lload_n 0, 1) := by decide +kernel
theorem dMo_fit_29 : decode bMo_fit 29 = .ok (.lreturn, 1) := by decide +kernel
theorem dMo_block_0 : decode bMo_block 0 = .ok (.aload_n 0, 1) := by decide +kernel
theorem dMo_block_1 : decode bMo_block 1 = .ok (.iconst 0, 1) := by decide +kernel
theorem dMo_block_2 : decode bMo_block 2 = .ok (.putfield 74, 3) := by decide +kernel
theorem dMo_block_5 : decode bMo_block 5 = .ok (.iload_n 1, 1) := by decide +kernel
theorem dMo_block_6 : decode bMo_block 6 = .ok (.iconst 0, 1) := by decide +kernel
theorem dMo_block_7 : decode bMo_block 7 = .ok (.bipush 7, 2) := by decide +kernel
theorem dMo_block_9 : decode bMo_block 9 = .ok (.invokestatic 88, 3) := by decide +kernel
theorem dMo_block_12 : decode bMo_block 12 = .ok (.ifCond .eq 33, 3) := by decide +kernel
theorem dMo_block_15 : decode bMo_block 15 = .ok (.iload_n 1, 1) := by decide +kernel
theorem dMo_block_16 : decode bMo_block 16 = .ok (.iconst 3, 1) := by decide +kernel
theorem dMo_block_17 : decode bMo_block 17 = .ok (.if_icmp .ge 13, 3) := by decide +kernel
theorem dMo_block_20 : decode bMo_block 20 = .ok (.iload_n 2, 1) := by decide +kernel
theorem dMo_block_21 : decode bMo_block 21 = .ok (.iconst 1, 1) := by decide +kernel
theorem dMo_block_22 : decode bMo_block 22 = .ok (.bipush 100, 2) := by decide +kernel
theorem dMo_block_24 : decode bMo_block 24 = .ok (.invokestatic 88, 3) := by decide +kernel
theorem dMo_block_27 : decode bMo_block 27 = .ok (.ifCond .eq 18, 3) := by decide +kernel
theorem dMo_block_30 : decode bMo_block 30 = .ok (.iload_n 1, 1) := by decide +kernel
theorem dMo_block_31 : decode bMo_block 31 = .ok (.iconst 2, 1) := by decide +kernel
theorem dMo_block_32 : decode bMo_block 32 = .ok (.if_icmp .ne 19, 3) := by decide +kernel
theorem dMo_block_35 : decode bMo_block 35 = .ok (.iload_n 3, 1) := by decide +kernel
theorem dMo_block_36 : decode bMo_block 36 = .ok (.iconst 0, 1) := by decide +kernel
theorem dMo_block_37 : decode bMo_block 37 = .ok (.bipush 31, 2) := by decide +kernel
theorem dMo_block_39 : decode bMo_block 39 = .ok (.invokestatic 88, 3) := by decide +kernel
theorem dMo_block_42 : decode bMo_block 42 = .ok (.ifCond .ne 9, 3) := by decide +kernel
theorem dMo_block_45 : decode bMo_block 45 = .ok (.aload_n 0, 1) := by decide +kernel
theorem dMo_block_46 : decode bMo_block 46 = .ok (.iconst 1, 1) := by decide +kernel
theorem dMo_block_47 : decode bMo_block 47 = .ok (.invokevirtual 92, 3) := by decide +kernel
theorem dMo_block_50 : decode bMo_block 50 = .ok (.ireturn, 1) := by decide +kernel
theorem dMo_block_51 : decode bMo_block 51 = .ok (.iload_n 1, 1) := by decide +kernel
theorem dMo_block_52 : decode bMo_block 52 = .ok (.iconst 4, 1) := by decide +kernel
theorem dMo_block_53 : decode bMo_block 53 = .ok (.if_icmp .le 29, 3) := by decide +kernel
theorem dMo_block_56 : decode bMo_block 56 = .ok (.iload_n 2, 1) := by decide +kernel
theorem dMo_block_57 : decode bMo_block 57 = .ok (.iconst 0, 1) := by decide +kernel
theorem dMo_block_58 : decode bMo_block 58 = .ok (.bipush 7, 2) := by decide +kernel
theorem dMo_block_60 : decode bMo_block 60 = .ok (.invokestatic 88, 3) := by decide +kernel
theorem dMo_block_63 : decode bMo_block 63 = .ok (.ifCond .eq 13, 3) := by decide +kernel
theorem dMo_block_66 : decode bMo_block 66 = .ok (.iload_n 3, 1) := by decide +kernel
theorem dMo_block_67 : decode bMo_block 67 = .ok (.iconst 0, 1) := by decide +kernel
theorem dMo_block_68 : decode bMo_block 68 = .ok (.bipush 7, 2) := by decide +kernel
theorem dMo_block_70 : decode bMo_block 70 = .ok (.invokestatic 88, 3) := by decide +kernel
theorem dMo_block_73 : decode bMo_block 73 = .ok (.ifCond .ne 9, 3) := by decide +kernel
theorem dMo_block_76 : decode bMo_block 76 = .ok (.aload_n 0, 1) := by decide +kernel
theorem dMo_block_77 : decode bMo_block 77 = .ok (.iconst 1, 1) := by decide +kernel
theorem dMo_block_78 : decode bMo_block 78 = .ok (.invokevirtual 92, 3) := by decide +kernel
theorem dMo_block_81 : decode bMo_block 81 = .ok (.ireturn, 1) := by decide +kernel
theorem dMo_block_82 : decode bMo_block 82 = .ok (.aload_n 0, 1) := by decide +kernel
theorem dMo_block_83 : decode bMo_block 83 = .ok (.getfield 96, 3) := by decide +kernel
theorem dMo_block_86 : decode bMo_block 86 = .ok (.bipush 10, 2) := by decide +kernel
theorem dMo_block_88 : decode bMo_block 88 = .ok (.if_icmp .ne 9, 3) := by decide +kernel
theorem dMo_block_91 : decode bMo_block 91 = .ok (.aload_n 0, 1) := by decide +kernel
theorem dMo_block_92 : decode bMo_block 92 = .ok (.iconst 2, 1) := by decide +kernel
theorem dMo_block_93 : decode bMo_block 93 = .ok (.invokevirtual 92, 3) := by decide +kernel
theorem dMo_block_96 : decode bMo_block 96 = .ok (.ireturn, 1) := by decide +kernel
theorem dMo_block_97 : decode bMo_block 97 = .ok (.aload_n 0, 1) := by decide +kernel
theorem dMo_block_98 : decode bMo_block 98 = .ok (.getfield 26, 3) := by decide +kernel
theorem dMo_block_101 : decode bMo_block 101 = .ok (.aload_n 0, 1) := by decide +kernel
theorem dMo_block_102 : decode bMo_block 102 = .ok (.getfield 96, 3) := by decide +kernel
theorem dMo_block_105 : decode bMo_block 105 = .ok (.iload_n 1, 1) := by decide +kernel
theorem dMo_block_106 : decode bMo_block 106 = .ok (.iastore, 1) := by decide +kernel
theorem dMo_block_107 : decode bMo_block 107 = .ok (.aload_n 0, 1) := by decide +kernel
theorem dMo_block_108 : decode bMo_block 108 = .ok (.getfield 29, 3) := by decide +kernel
theorem dMo_block_111 : decode bMo_block 111 = .ok (.aload_n 0, 1) := by decide +kernel
theorem dMo_block_112 : decode bMo_block 112 = .ok (.getfield 96, 3) := by decide +kernel
theorem dMo_block_115 : decode bMo_block 115 = .ok (.iload_n 2, 1) := by decide +kernel
theorem dMo_block_116 : decode bMo_block 116 = .ok (.iastore, 1) := by decide +kernel
theorem dMo_block_117 : decode bMo_block 117 = .ok (.aload_n 0, 1) := by decide +kernel
theorem dMo_block_118 : decode bMo_block 118 = .ok (.getfield 32, 3) := by decide +kernel
theorem dMo_block_121 : decode bMo_block 121 = .ok (.aload_n 0, 1) := by decide +kernel
theorem dMo_block_122 : decode bMo_block 122 = .ok (.getfield 96, 3) := by decide +kernel
theorem dMo_block_125 : decode bMo_block 125 = .ok (.iload_n 3, 1) := by decide +kernel
theorem dMo_block_126 : decode bMo_block 126 = .ok (.iastore, 1) := by decide +kernel
theorem dMo_block_127 : decode bMo_block 127 = .ok (.aload_n 0, 1) := by decide +kernel
theorem dMo_block_128 : decode bMo_block 128 = .ok (.dup, 1) := by decide +kernel
theorem dMo_block_129 : decode bMo_block 129 = .ok (.getfield 96, 3) := by decide +kernel
theorem dMo_block_132 : decode bMo_block 132 = .ok (.iconst 1, 1) := by decide +kernel
theorem dMo_block_133 : decode bMo_block 133 = .ok (.iadd, 1) := by decide +kernel
theorem dMo_block_134 : decode bMo_block 134 = .ok (.putfield 96, 3) := by decide +kernel
theorem dMo_block_137 : decode bMo_block 137 = .ok (.aload_n 0, 1) := by decide +kernel
theorem dMo_block_138 : decode bMo_block 138 = .ok (.getfield 96, 3) := by decide +kernel
theorem dMo_block_141 : decode bMo_block 141 = .ok (.iconst 1, 1) := by decide +kernel
theorem dMo_block_142 : decode bMo_block 142 = .ok (.isub, 1) := by decide +kernel
theorem dMo_block_143 : decode bMo_block 143 = .ok (.ireturn, 1) := by decide +kernel
theorem dMo_tune_0 : decode bMo_tune 0 = .ok (.aload_n 0, 1) := by decide +kernel
theorem dMo_tune_1 : decode bMo_tune 1 = .ok (.iconst 0, 1) := by decide +kernel
theorem dMo_tune_2 : decode bMo_tune 2 = .ok (.putfield 74, 3) := by decide +kernel
theorem dMo_tune_5 : decode bMo_tune 5 = .ok (.iload_n 1, 1) := by decide +kernel
theorem dMo_tune_6 : decode bMo_tune 6 = .ok (.iconst 0, 1) := by decide +kernel
theorem dMo_tune_7 : decode bMo_tune 7 = .ok (.aload_n 0, 1) := by decide +kernel
theorem dMo_tune_8 : decode bMo_tune 8 = .ok (.getfield 96, 3) := by decide +kernel
theorem dMo_tune_11 : decode bMo_tune 11 = .ok (.iconst 1, 1) := by decide +kernel
theorem dMo_tune_12 : decode bMo_tune 12 = .ok (.isub, 1) := by decide +kernel
theorem dMo_tune_13 : decode bMo_tune 13 = .ok (.invokestatic 88, 3) := by decide +kernel
theorem dMo_tune_16 : decode bMo_tune 16 = .ok (.ifCond .ne 10, 3) := by decide +kernel
theorem dMo_tune_19 : decode bMo_tune 19 = .ok (.aload_n 0, 1) := by decide +kernel
theorem dMo_tune_20 : decode bMo_tune 20 = .ok (.iconst 1, 1) := by decide +kernel
theorem dMo_tune_21 : decode bMo_tune 21 = .ok (.invokevirtual 92, 3) := by decide +kernel
theorem dMo_tune_24 : decode bMo_tune 24 = .ok (.i2d, 1) := by decide +kernel
theorem dMo_tune_25 : decode bMo_tune 25 = .ok (.dreturn, 1) := by decide +kernel
theorem dMo_tune_26 : decode bMo_tune 26 = .ok (.aload_n 0, 1) := by decide +kernel
theorem dMo_tune_27 : decode bMo_tune 27 = .ok (.getfield 26, 3) := by decide +kernel
theorem dMo_tune_30 : decode bMo_tune 30 = .ok (.iload_n 1, 1) := by decide +kernel
theorem dMo_tune_31 : decode bMo_tune 31 = .ok (.iaload, 1) := by decide +kernel
theorem dMo_tune_32 : decode bMo_tune 32 = .ok (.iconst 5, 1) := by decide +kernel
theorem dMo_tune_33 : decode bMo_tune 33 = .ok (.if_icmp .ge 10, 3) := by decide +kernel
theorem dMo_tune_36 : decode bMo_tune 36 = .ok (.aload_n 0, 1) := by decide +kernel
theorem dMo_tune_37 : decode bMo_tune 37 = .ok (.iconst 2, 1) := by decide +kernel
theorem dMo_tune_38 : decode bMo_tune 38 = .ok (.invokevirtual 92, 3) := by decide +kernel
theorem dMo_tune_41 : decode bMo_tune 41 = .ok (.i2d, 1) := by decide +kernel
theorem dMo_tune_42 : decode bMo_tune 42 = .ok (.dreturn, 1) := by decide +kernel
theorem dMo_tune_43 : decode bMo_tune 43 = .ok (.dload_n 2, 1) := by decide +kernel
theorem dMo_tune_44 : decode bMo_tune 44 = .ok (.invokestatic 99, 3) := by decide +kernel
theorem dMo_tune_47 : decode bMo_tune 47 = .ok (.ifCond .eq 44, 3) := by decide +kernel
theorem dMo_tune_50 : decode bMo_tune 50 = .ok (.dload 4, 2) := by decide +kernel
theorem dMo_tune_52 : decode bMo_tune 52 = .ok (.invokestatic 99, 3) := by decide +kernel
theorem dMo_tune_55 : decode bMo_tune 55 = .ok (.ifCond .eq 36, 3) := by decide +kernel
theorem dMo_tune_58 : decode bMo_tune 58 = .ok (.dload_n 2, 1) := by decide +kernel
theorem dMo_tune_59 : decode bMo_tune 59 = .ok (.invokestatic 103, 3) := by decide +kernel
theorem dMo_tune_62 : decode bMo_tune 62 = .ok (.ifCond .eq 29, 3) := by decide +kernel
theorem dMo_tune_65 : decode bMo_tune 65 = .ok (.dload 4, 2) := by decide +kernel
theorem dMo_tune_67 : decode bMo_tune 67 = .ok (.invokestatic 103, 3) := by decide +kernel
theorem dMo_tune_70 : decode bMo_tune 70 = .ok (.ifCond .eq 21, 3) := by decide +kernel
theorem dMo_tune_73 : decode bMo_tune 73 = .ok (.aload_n 0, 1) := by decide +kernel
theorem dMo_tune_74 : decode bMo_tune 74 = .ok (.getfield 26, 3) := by decide +kernel
theorem dMo_tune_77 : decode bMo_tune 77 = .ok (.iload_n 1, 1) := by decide +kernel
theorem dMo_tune_78 : decode bMo_tune 78 = .ok (.iaload, 1) := by decide +kernel
theorem dMo_tune_79 : decode bMo_tune 79 = .ok (.bipush 7, 2) := by decide +kernel
theorem dMo_tune_81 : decode bMo_tune 81 = .ok (.if_icmp .ne 17, 3) := by decide +kernel
theorem dMo_tune_84 : decode bMo_tune 84 = .ok (.dload_n 2, 1) := by decide +kernel
theorem dMo_tune_85 : decode bMo_tune 85 = .ok (.dload 4, 2) := by decide +kernel
theorem dMo_tune_87 : decode bMo_tune 87 = .ok (.dcmp .g, 1) := by decide +kernel
theorem dMo_tune_88 : decode bMo_tune 88 = .ok (.ifCond .ge 10, 3) := by decide +kernel
theorem dMo_tune_91 : decode bMo_tune 91 = .ok (.aload_n 0, 1) := by decide +kernel
theorem dMo_tune_92 : decode bMo_tune 92 = .ok (.iconst 3, 1) := by decide +kernel
theorem dMo_tune_93 : decode bMo_tune 93 = .ok (.invokevirtual 92, 3) := by decide +kernel
theorem dMo_tune_96 : decode bMo_tune 96 = .ok (.i2d, 1) := by decide +kernel
theorem dMo_tune_97 : decode bMo_tune 97 = .ok (.dreturn, 1) := by decide +kernel
theorem dMo_tune_98 : decode bMo_tune 98 = .ok (.aload_n 0, 1) := by decide +kernel
theorem dMo_tune_99 : decode bMo_tune 99 = .ok (.getfield 35, 3) := by decide +kernel
theorem dMo_tune_102 : decode bMo_tune 102 = .ok (.iload_n 1, 1) := by decide +kernel
theorem dMo_tune_103 : decode bMo_tune 103 = .ok (.laload, 1) := by decide +kernel
theorem dMo_tune_104 : decode bMo_tune 104 = .ok (.lstore 6, 2) := by decide +kernel
theorem dMo_tune_106 : decode bMo_tune 106 = .ok (.aload_n 0, 1) := by decide +kernel
theorem dMo_tune_107 : decode bMo_tune 107 = .ok (.getfield 35, 3) := by decide +kernel
theorem dMo_tune_110 : decode bMo_tune 110 = .ok (.iload_n 1, 1) := by decide +kernel
theorem dMo_tune_111 : decode bMo_tune 111 = .ok (.dload_n 2, 1) := by decide +kernel
theorem dMo_tune_112 : decode bMo_tune 112 = .ok (.invokestatic 106, 3) := by decide +kernel
theorem dMo_tune_115 : decode bMo_tune 115 = .ok (.lastore, 1) := by decide +kernel
theorem dMo_tune_116 : decode bMo_tune 116 = .ok (.aload_n 0, 1) := by decide +kernel
theorem dMo_tune_117 : decode bMo_tune 117 = .ok (.getfield 38, 3) := by decide +kernel
theorem dMo_tune_120 : decode bMo_tune 120 = .ok (.iload_n 1, 1) := by decide +kernel
theorem dMo_tune_121 : decode bMo_tune 121 = .ok (.dload 4, 2) := by decide +kernel
theorem dMo_tune_123 : decode bMo_tune 123 = .ok (.invokestatic 106, 3) := by decide +kernel
theorem dMo_tune_126 : decode bMo_tune 126 = .ok (.lastore, 1) := by decide +kernel
theorem dMo_tune_127 : decode bMo_tune 127 = .ok (.lload 6, 2) := by decide +kernel
theorem dMo_tune_129 : decode bMo_tune 129 = .ok (.l2d, 1) := by decide +kernel
theorem dMo_tune_130 : decode bMo_tune 130 = .ok (.ldc2_w 110, 3) := by decide +kernel
theorem dMo_tune_133 : decode bMo_tune 133 = .ok (.dmul, 1) := by decide +kernel
theorem dMo_tune_134 : decode bMo_tune 134 = .ok (.dreturn, 1) := by decide +kernel
theorem dMo_fits_0 : decode bMo_fits 0 = .ok (.iload_n 1, 1) := by decide +kernel
theorem dMo_fits_1 : decode bMo_fits 1 = .ok (.iconst 0, 1) := by decide +kernel
theorem dMo_fits_2 : decode bMo_fits 2 = .ok (.iconst 5, 1) := by decide +kernel
theorem dMo_fits_3 : decode bMo_fits 3 = .ok (.invokestatic 88, 3) := by decide +kernel
theorem dMo_fits_6 : decode bMo_fits 6 = .ok (.ifCond .eq 11, 3) := by decide +kernel
theorem dMo_fits_9 : decode bMo_fits 9 = .ok (.iload_n 2, 1) := by decide +kernel
theorem dMo_fits_10 : decode bMo_fits 10 = .ok (.iconst 0, 1) := by decide +kernel
theorem dMo_fits_11 : decode bMo_fits 11 = .ok (.bipush 31, 2) := by decide +kernel
theorem dMo_fits_13 : decode bMo_fits 13 = .ok (.invokestatic 88, 3) := by decide +kernel
theorem dMo_fits_16 : decode bMo_fits 16 = .ok (.ireturn, 1) := by decide +kernel
theorem dMo_fits_17 : decode bMo_fits 17 = .ok (.iload_n 1, 1) := by decide +kernel
theorem dMo_fits_18 : decode bMo_fits 18 = .ok (.tableswitch 85 6 13 #[46, 46, 48, 56, 68, 68, 68, 77], 46) := by decide +kernel
theorem dMo_fits_64 : decode bMo_fits 64 = .ok (.iconst 1, 1) := by decide +kernel
theorem dMo_fits_65 : decode bMo_fits 65 = .ok (.ireturn, 1) := by decide +kernel
theorem dMo_fits_66 : decode bMo_fits 66 = .ok (.iload_n 2, 1) := by decide +kernel
theorem dMo_fits_67 : decode bMo_fits 67 = .ok (.iconst 0, 1) := by decide +kernel
theorem dMo_fits_68 : decode bMo_fits 68 = .ok (.bipush 63, 2) := by decide +kernel
theorem dMo_fits_70 : decode bMo_fits 70 = .ok (.invokestatic 88, 3) := by decide +kernel
theorem dMo_fits_73 : decode bMo_fits 73 = .ok (.ireturn, 1) := by decide +kernel
theorem dMo_fits_74 : decode bMo_fits 74 = .ok (.iload_n 2, 1) := by decide +kernel
theorem dMo_fits_75 : decode bMo_fits 75 = .ok (.iconst 0, 1) := by decide +kernel
theorem dMo_fits_76 : decode bMo_fits 76 = .ok (.aload_n 0, 1) := by decide +kernel
theorem dMo_fits_77 : decode bMo_fits 77 = .ok (.getfield 96, 3) := by decide +kernel
theorem dMo_fits_80 : decode bMo_fits 80 = .ok (.iconst 1, 1) := by decide +kernel
theorem dMo_fits_81 : decode bMo_fits 81 = .ok (.isub, 1) := by decide +kernel
theorem dMo_fits_82 : decode bMo_fits 82 = .ok (.invokestatic 88, 3) := by decide +kernel
theorem dMo_fits_85 : decode bMo_fits 85 = .ok (.ireturn, 1) := by decide +kernel
theorem dMo_fits_86 : decode bMo_fits 86 = .ok (.iload_n 2, 1) := by decide +kernel
theorem dMo_fits_87 : decode bMo_fits 87 = .ok (.bipush 8, 2) := by decide +kernel
theorem dMo_fits_89 : decode bMo_fits 89 = .ok (.bipush 31, 2) := by decide +kernel
theorem dMo_fits_91 : decode bMo_fits 91 = .ok (.invokestatic 88, 3) := by decide +kernel
theorem dMo_fits_94 : decode bMo_fits 94 = .ok (.ireturn, 1) := by decide +kernel
theorem dMo_fits_95 : decode bMo_fits 95 = .ok (.iload_n 2, 1) := by decide +kernel
theorem dMo_fits_96 : decode bMo_fits 96 = .ok (.iconst 0, 1) := by decide +kernel
theorem dMo_fits_97 : decode bMo_fits 97 = .ok (.bipush 11, 2) := by decide +kernel
theorem dMo_fits_99 : decode bMo_fits 99 = .ok (.invokestatic 88, 3) := by decide +kernel
theorem dMo_fits_102 : decode bMo_fits 102 = .ok (.ireturn, 1) := by decide +kernel
theorem dMo_fits_103 : decode bMo_fits 103 = .ok (.iconst 0, 1) := by decide +kernel
theorem dMo_fits_104 : decode bMo_fits 104 = .ok (.ireturn, 1) := by decide +kernel
theorem dMo_pushes_0 : decode bMo_pushes 0 = .ok (.iload_n 0, 1) := by decide +kernel
theorem dMo_pushes_1 : decode bMo_pushes 1 = .ok (.iconst 2, 1) := by decide +kernel
theorem dMo_pushes_2 : decode bMo_pushes 2 = .ok (.if_icmp .lt 9, 3) := by decide +kernel
theorem dMo_pushes_5 : decode bMo_pushes 5 = .ok (.iload_n 0, 1) := by decide +kernel
theorem dMo_pushes_6 : decode bMo_pushes 6 = .ok (.bipush 8, 2) := by decide +kernel
theorem dMo_pushes_8 : decode bMo_pushes 8 = .ok (.if_icmp .ne 7, 3) := by decide +kernel
theorem dMo_pushes_11 : decode bMo_pushes 11 = .ok (.iconst 1, 1) := by decide +kernel
theorem dMo_pushes_12 : decode bMo_pushes 12 = .ok (.goto 4, 3) := by decide +kernel
theorem dMo_pushes_15 : decode bMo_pushes 15 = .ok (.iconst 0, 1) := by decide +kernel
theorem dMo_pushes_16 : decode bMo_pushes 16 = .ok (.ireturn, 1) := by decide +kernel
theorem dMo_joins_0 : decode bMo_joins 0 = .ok (.iload_n 0, 1) := by decide +kernel
theorem dMo_joins_1 : decode bMo_joins 1 = .ok (.bipush 6, 2) := by decide +kernel
theorem dMo_joins_3 : decode bMo_joins 3 = .ok (.if_icmp .eq 9, 3) := by decide +kernel
theorem dMo_joins_6 : decode bMo_joins 6 = .ok (.iload_n 0, 1) := by decide +kernel
theorem dMo_joins_7 : decode bMo_joins 7 = .ok (.bipush 7, 2) := by decide +kernel
theorem dMo_joins_9 : decode bMo_joins 9 = .ok (.if_icmp .ne 7, 3) := by decide +kernel
theorem dMo_joins_12 : decode bMo_joins 12 = .ok (.iconst 1, 1) := by decide +kernel
theorem dMo_joins_13 : decode bMo_joins 13 = .ok (.goto 4, 3) := by decide +kernel
theorem dMo_joins_16 : decode bMo_joins 16 = .ok (.iconst 0, 1) := by decide +kernel
theorem dMo_joins_17 : decode bMo_joins 17 = .ok (.ireturn, 1) := by decide +kernel
theorem dMo_step_0 : decode bMo_step 0 = .ok (.aload_n 0, 1) := by decide +kernel
theorem dMo_step_1 : decode bMo_step 1 = .ok (.iconst 0, 1) := by decide +kernel
theorem dMo_step_2 : decode bMo_step 2 = .ok (.putfield 74, 3) := by decide +kernel
theorem dMo_step_5 : decode bMo_step 5 = .ok (.iload_n 1, 1) := by decide +kernel
theorem dMo_step_6 : decode bMo_step 6 = .ok (.iconst 0, 1) := by decide +kernel
theorem dMo_step_7 : decode bMo_step 7 = .ok (.bipush 11, 2) := by decide +kernel
theorem dMo_step_9 : decode bMo_step 9 = .ok (.invokestatic 88, 3) := by decide +kernel
theorem dMo_step_12 : decode bMo_step 12 = .ok (.ifCond .eq 12, 3) := by decide +kernel
theorem dMo_step_15 : decode bMo_step 15 = .ok (.aload_n 0, 1) := by decide +kernel
theorem dMo_step_16 : decode bMo_step 16 = .ok (.iload_n 2, 1) := by decide +kernel
theorem dMo_step_17 : decode bMo_step 17 = .ok (.iload_n 3, 1) := by decide +kernel
theorem dMo_step_18 : decode bMo_step 18 = .ok (.invokevirtual 112, 3) := by decide +kernel
theorem dMo_step_21 : decode bMo_step 21 = .ok (.ifCond .ne 9, 3) := by decide +kernel
theorem dMo_step_24 : decode bMo_step 24 = .ok (.aload_n 0, 1) := by decide +kernel
theorem dMo_step_25 : decode bMo_step 25 = .ok (.iconst 1, 1) := by decide +kernel
theorem dMo_step_26 : decode bMo_step 26 = .ok (.invokevirtual 92, 3) := by decide +kernel
theorem dMo_step_29 : decode bMo_step 29 = .ok (.ireturn, 1) := by decide +kernel
theorem dMo_step_30 : decode bMo_step 30 = .ok (.aload_n 0, 1) := by decide +kernel
theorem dMo_step_31 : decode bMo_step 31 = .ok (.getfield 59, 3) := by decide +kernel
theorem dMo_step_34 : decode bMo_step 34 = .ok (.iload_n 1, 1) := by decide +kernel
theorem dMo_step_35 : decode bMo_step 35 = .ok (.iaload, 1) := by decide +kernel
theorem dMo_step_36 : decode bMo_step 36 = .ok (.istore 4, 2) := by decide +kernel
theorem dMo_step_38 : decode bMo_step 38 = .ok (.iload_n 2, 1) := by decide +kernel
theorem dMo_step_39 : decode bMo_step 39 = .ok (.invokestatic 116, 3) := by decide +kernel
theorem dMo_step_42 : decode bMo_step 42 = .ok (.ifCond .eq 12, 3) := by decide +kernel
theorem dMo_step_45 : decode bMo_step 45 = .ok (.iload 4, 2) := by decide +kernel
theorem dMo_step_47 : decode bMo_step 47 = .ok (.iconst 4, 1) := by decide +kernel
theorem dMo_step_48 : decode bMo_step 48 = .ok (.if_icmp .ne 29, 3) := by decide +kernel
theorem dMo_step_51 : decode bMo_step 51 = .ok (.goto 20, 3) := by decide +kernel
theorem dMo_step_54 : decode bMo_step 54 = .ok (.iload 4, 2) := by decide +kernel
theorem dMo_step_56 : decode bMo_step 56 = .ok (.iload_n 2, 1) := by decide +kernel
theorem dMo_step_57 : decode bMo_step 57 = .ok (.invokestatic 120, 3) := by decide +kernel
theorem dMo_step_60 : decode bMo_step 60 = .ok (.ifCond .eq 7, 3) := by decide +kernel
theorem dMo_step_63 : decode bMo_step 63 = .ok (.iconst 2, 1) := by decide +kernel
theorem dMo_step_64 : decode bMo_step 64 = .ok (.goto 4, 3) := by decide +kernel
theorem dMo_step_67 : decode bMo_step 67 = .ok (.iconst 1, 1) := by decide +kernel
theorem dMo_step_68 : decode bMo_step 68 = .ok (.if_icmp .ge 9, 3) := by decide +kernel
theorem dMo_step_71 : decode bMo_step 71 = .ok (.aload_n 0, 1) := by decide +kernel
theorem dMo_step_72 : decode bMo_step 72 = .ok (.iconst 2, 1) := by decide +kernel
theorem dMo_step_73 : decode bMo_step 73 = .ok (.invokevirtual 92, 3) := by decide +kernel
theorem dMo_step_76 : decode bMo_step 76 = .ok (.ireturn, 1) := by decide +kernel
theorem dMo_step_77 : decode bMo_step 77 = .ok (.aload_n 0, 1) := by decide +kernel
theorem dMo_step_78 : decode bMo_step 78 = .ok (.getfield 56, 3) := by decide +kernel
theorem dMo_step_81 : decode bMo_step 81 = .ok (.iload_n 1, 1) := by decide +kernel
theorem dMo_step_82 : decode bMo_step 82 = .ok (.iaload, 1) := by decide +kernel
theorem dMo_step_83 : decode bMo_step 83 = .ok (.bipush 10, 2) := by decide +kernel
theorem dMo_step_85 : decode bMo_step 85 = .ok (.if_icmp .ne 9, 3) := by decide +kernel
theorem dMo_step_88 : decode bMo_step 88 = .ok (.aload_n 0, 1) := by decide +kernel
theorem dMo_step_89 : decode bMo_step 89 = .ok (.iconst 3, 1) := by decide +kernel
theorem dMo_step_90 : decode bMo_step 90 = .ok (.invokevirtual 92, 3) := by decide +kernel
theorem dMo_step_93 : decode bMo_step 93 = .ok (.ireturn, 1) := by decide +kernel
theorem dMo_step_94 : decode bMo_step 94 = .ok (.aload_n 0, 1) := by decide +kernel
theorem dMo_step_95 : decode bMo_step 95 = .ok (.getfield 50, 3) := by decide +kernel
theorem dMo_step_98 : decode bMo_step 98 = .ok (.bipush 10, 2) := by decide +kernel
theorem dMo_step_100 : decode bMo_step 100 = .ok (.iload_n 1, 1) := by decide +kernel
theorem dMo_step_101 : decode bMo_step 101 = .ok (.imul, 1) := by decide +kernel
theorem dMo_step_102 : decode bMo_step 102 = .ok (.aload_n 0, 1) := by decide +kernel
theorem dMo_step_103 : decode bMo_step 103 = .ok (.getfield 56, 3) := by decide +kernel
theorem dMo_step_106 : decode bMo_step 106 = .ok (.iload_n 1, 1) := by decide +kernel
theorem dMo_step_107 : decode bMo_step 107 = .ok (.iaload, 1) := by decide +kernel
theorem dMo_step_108 : decode bMo_step 108 = .ok (.iadd, 1) := by decide +kernel
theorem dMo_step_109 : decode bMo_step 109 = .ok (.iload_n 2, 1) := by decide +kernel
theorem dMo_step_110 : decode bMo_step 110 = .ok (.iastore, 1) := by decide +kernel
theorem dMo_step_111 : decode bMo_step 111 = .ok (.aload_n 0, 1) := by decide +kernel
theorem dMo_step_112 : decode bMo_step 112 = .ok (.getfield 53, 3) := by decide +kernel
theorem dMo_step_115 : decode bMo_step 115 = .ok (.bipush 10, 2) := by decide +kernel
theorem dMo_step_117 : decode bMo_step 117 = .ok (.iload_n 1, 1) := by decide +kernel
theorem dMo_step_118 : decode bMo_step 118 = .ok (.imul, 1) := by decide +kernel
theorem dMo_step_119 : decode bMo_step 119 = .ok (.aload_n 0, 1) := by decide +kernel
theorem dMo_step_120 : decode bMo_step 120 = .ok (.getfield 56, 3) := by decide +kernel
theorem dMo_step_123 : decode bMo_step 123 = .ok (.iload_n 1, 1) := by decide +kernel
theorem dMo_step_124 : decode bMo_step 124 = .ok (.iaload, 1) := by decide +kernel
theorem dMo_step_125 : decode bMo_step 125 = .ok (.iadd, 1) := by decide +kernel
theorem dMo_step_126 : decode bMo_step 126 = .ok (.iload_n 3, 1) := by decide +kernel
theorem dMo_step_127 : decode bMo_step 127 = .ok (.iastore, 1) := by decide +kernel
theorem dMo_step_128 : decode bMo_step 128 = .ok (.aload_n 0, 1) := by decide +kernel
theorem dMo_step_129 : decode bMo_step 129 = .ok (.getfield 56, 3) := by decide +kernel
theorem dMo_step_132 : decode bMo_step 132 = .ok (.iload_n 1, 1) := by decide +kernel
theorem dMo_step_133 : decode bMo_step 133 = .ok (.dup2, 1) := by decide +kernel
theorem dMo_step_134 : decode bMo_step 134 = .ok (.iaload, 1) := by decide +kernel
theorem dMo_step_135 : decode bMo_step 135 = .ok (.iconst 1, 1) := by decide +kernel
theorem dMo_step_136 : decode bMo_step 136 = .ok (.iadd, 1) := by decide +kernel
theorem dMo_step_137 : decode bMo_step 137 = .ok (.iastore, 1) := by decide +kernel
theorem dMo_step_138 : decode bMo_step 138 = .ok (.aload_n 0, 1) := by decide +kernel
theorem dMo_step_139 : decode bMo_step 139 = .ok (.getfield 59, 3) := by decide +kernel
theorem dMo_step_142 : decode bMo_step 142 = .ok (.iload_n 1, 1) := by decide +kernel
theorem dMo_step_143 : decode bMo_step 143 = .ok (.iload_n 2, 1) := by decide +kernel
theorem dMo_step_144 : decode bMo_step 144 = .ok (.invokestatic 116, 3) := by decide +kernel
theorem dMo_step_147 : decode bMo_step 147 = .ok (.ifCond .eq 10, 3) := by decide +kernel
theorem dMo_step_150 : decode bMo_step 150 = .ok (.iload 4, 2) := by decide +kernel
theorem dMo_step_152 : decode bMo_step 152 = .ok (.iconst 1, 1) := by decide +kernel
theorem dMo_step_153 : decode bMo_step 153 = .ok (.iadd, 1) := by decide +kernel
theorem dMo_step_154 : decode bMo_step 154 = .ok (.goto 19, 3) := by decide +kernel
theorem dMo_step_157 : decode bMo_step 157 = .ok (.iload_n 2, 1) := by decide +kernel
theorem dMo_step_158 : decode bMo_step 158 = .ok (.invokestatic 120, 3) := by decide +kernel
theorem dMo_step_161 : decode bMo_step 161 = .ok (.ifCond .eq 10, 3) := by decide +kernel
theorem dMo_step_164 : decode bMo_step 164 = .ok (.iload 4, 2) := by decide +kernel
theorem dMo_step_166 : decode bMo_step 166 = .ok (.iconst 1, 1) := by decide +kernel
theorem dMo_step_167 : decode bMo_step 167 = .ok (.isub, 1) := by decide +kernel
theorem dMo_step_168 : decode bMo_step 168 = .ok (.goto 5, 3) := by decide +kernel
theorem dMo_step_171 : decode bMo_step 171 = .ok (.iload 4, 2) := by decide +kernel
theorem dMo_step_173 : decode bMo_step 173 = .ok (.iastore, 1) := by decide +kernel
theorem dMo_step_174 : decode bMo_step 174 = .ok (.aload_n 0, 1) := by decide +kernel
theorem dMo_step_175 : decode bMo_step 175 = .ok (.getfield 59, 3) := by decide +kernel
theorem dMo_step_178 : decode bMo_step 178 = .ok (.iload_n 1, 1) := by decide +kernel
theorem dMo_step_179 : decode bMo_step 179 = .ok (.iaload, 1) := by decide +kernel
theorem dMo_step_180 : decode bMo_step 180 = .ok (.ireturn, 1) := by decide +kernel
theorem dMo_erase_0 : decode bMo_erase 0 = .ok (.aload_n 0, 1) := by decide +kernel
theorem dMo_erase_1 : decode bMo_erase 1 = .ok (.iconst 0, 1) := by decide +kernel
theorem dMo_erase_2 : decode bMo_erase 2 = .ok (.putfield 74, 3) := by decide +kernel
theorem dMo_erase_5 : decode bMo_erase 5 = .ok (.iload_n 1, 1) := by decide +kernel
theorem dMo_erase_6 : decode bMo_erase 6 = .ok (.iconst 0, 1) := by decide +kernel
theorem dMo_erase_7 : decode bMo_erase 7 = .ok (.bipush 11, 2) := by decide +kernel
theorem dMo_erase_9 : decode bMo_erase 9 = .ok (.invokestatic 88, 3) := by decide +kernel
theorem dMo_erase_12 : decode bMo_erase 12 = .ok (.ifCond .ne 9, 3) := by decide +kernel
theorem dMo_erase_15 : decode bMo_erase 15 = .ok (.aload_n 0, 1) := by decide +kernel
theorem dMo_erase_16 : decode bMo_erase 16 = .ok (.iconst 1, 1) := by decide +kernel
theorem dMo_erase_17 : decode bMo_erase 17 = .ok (.invokevirtual 92, 3) := by decide +kernel
theorem dMo_erase_20 : decode bMo_erase 20 = .ok (.ireturn, 1) := by decide +kernel
theorem dMo_erase_21 : decode bMo_erase 21 = .ok (.aload_n 0, 1) := by decide +kernel
theorem dMo_erase_22 : decode bMo_erase 22 = .ok (.getfield 56, 3) := by decide +kernel
theorem dMo_erase_25 : decode bMo_erase 25 = .ok (.iload_n 1, 1) := by decide +kernel
theorem dMo_erase_26 : decode bMo_erase 26 = .ok (.iaload, 1) := by decide +kernel
theorem dMo_erase_27 : decode bMo_erase 27 = .ok (.istore_n 2, 1) := by decide +kernel
theorem dMo_erase_28 : decode bMo_erase 28 = .ok (.aload_n 0, 1) := by decide +kernel
theorem dMo_erase_29 : decode bMo_erase 29 = .ok (.getfield 56, 3) := by decide +kernel
theorem dMo_erase_32 : decode bMo_erase 32 = .ok (.iload_n 1, 1) := by decide +kernel
theorem dMo_erase_33 : decode bMo_erase 33 = .ok (.iconst 0, 1) := by decide +kernel
theorem dMo_erase_34 : decode bMo_erase 34 = .ok (.iastore, 1) := by decide +kernel
theorem dMo_erase_35 : decode bMo_erase 35 = .ok (.aload_n 0, 1) := by decide +kernel
theorem dMo_erase_36 : decode bMo_erase 36 = .ok (.getfield 59, 3) := by decide +kernel
theorem dMo_erase_39 : decode bMo_erase 39 = .ok (.iload_n 1, 1) := by decide +kernel
theorem dMo_erase_40 : decode bMo_erase 40 = .ok (.iconst 0, 1) := by decide +kernel
theorem dMo_erase_41 : decode bMo_erase 41 = .ok (.iastore, 1) := by decide +kernel
theorem dMo_erase_42 : decode bMo_erase 42 = .ok (.iload_n 2, 1) := by decide +kernel
theorem dMo_erase_43 : decode bMo_erase 43 = .ok (.ireturn, 1) := by decide +kernel
theorem dMo_download_0 : decode bMo_download 0 = .ok (.aload_n 0, 1) := by decide +kernel
theorem dMo_download_1 : decode bMo_download 1 = .ok (.iconst 0, 1) := by decide +kernel
theorem dMo_download_2 : decode bMo_download 2 = .ok (.putfield 74, 3) := by decide +kernel
theorem dMo_download_5 : decode bMo_download 5 = .ok (.iconst 0, 1) := by decide +kernel
theorem dMo_download_6 : decode bMo_download 6 = .ok (.istore_n 1, 1) := by decide +kernel
theorem dMo_download_7 : decode bMo_download 7 = .ok (.iconst 0, 1) := by decide +kernel
theorem dMo_download_8 : decode bMo_download 8 = .ok (.istore_n 2, 1) := by decide +kernel
theorem dMo_download_9 : decode bMo_download 9 = .ok (.iload_n 2, 1) := by decide +kernel
theorem dMo_download_10 : decode bMo_download 10 = .ok (.bipush 120, 2) := by decide +kernel
theorem dMo_download_12 : decode bMo_download 12 = .ok (.if_icmp .ge 33, 3) := by decide +kernel
theorem dMo_download_15 : decode bMo_download 15 = .ok (.aload_n 0, 1) := by decide +kernel
theorem dMo_download_16 : decode bMo_download 16 = .ok (.getfield 62, 3) := by decide +kernel
theorem dMo_download_19 : decode bMo_download 19 = .ok (.iload_n 2, 1) := by decide +kernel
theorem dMo_download_20 : decode bMo_download 20 = .ok (.aload_n 0, 1) := by decide +kernel
theorem dMo_download_21 : decode bMo_download 21 = .ok (.getfield 50, 3) := by decide +kernel
theorem dMo_download_24 : decode bMo_download 24 = .ok (.iload_n 2, 1) := by decide +kernel
theorem dMo_download_25 : decode bMo_download 25 = .ok (.iaload, 1) := by decide +kernel
theorem dMo_download_26 : decode bMo_download 26 = .ok (.iastore, 1) := by decide +kernel
theorem dMo_download_27 : decode bMo_download 27 = .ok (.aload_n 0, 1) := by decide +kernel
theorem dMo_download_28 : decode bMo_download 28 = .ok (.getfield 65, 3) := by decide +kernel
theorem dMo_download_31 : decode bMo_download 31 = .ok (.iload_n 2, 1) := by decide +kernel
theorem dMo_download_32 : decode bMo_download 32 = .ok (.aload_n 0, 1) := by decide +kernel
theorem dMo_download_33 : decode bMo_download 33 = .ok (.getfield 53, 3) := by decide +kernel
theorem dMo_download_36 : decode bMo_download 36 = .ok (.iload_n 2, 1) := by decide +kernel
theorem dMo_download_37 : decode bMo_download 37 = .ok (.iaload, 1) := by decide +kernel
theorem dMo_download_38 : decode bMo_download 38 = .ok (.iastore, 1) := by decide +kernel
theorem dMo_download_39 : decode bMo_download 39 = .ok (.iinc 2 1, 3) := by decide +kernel
theorem dMo_download_42 : decode bMo_download 42 = .ok (.goto (-33), 3) := by decide +kernel
theorem dMo_download_45 : decode bMo_download 45 = .ok (.iconst 0, 1) := by decide +kernel
theorem dMo_download_46 : decode bMo_download 46 = .ok (.istore_n 2, 1) := by decide +kernel
theorem dMo_download_47 : decode bMo_download 47 = .ok (.iload_n 2, 1) := by decide +kernel
theorem dMo_download_48 : decode bMo_download 48 = .ok (.bipush 12, 2) := by decide +kernel
theorem dMo_download_50 : decode bMo_download 50 = .ok (.if_icmp .ge 30, 3) := by decide +kernel
theorem dMo_download_53 : decode bMo_download 53 = .ok (.aload_n 0, 1) := by decide +kernel
theorem dMo_download_54 : decode bMo_download 54 = .ok (.getfield 68, 3) := by decide +kernel
theorem dMo_download_57 : decode bMo_download 57 = .ok (.iload_n 2, 1) := by decide +kernel
theorem dMo_download_58 : decode bMo_download 58 = .ok (.aload_n 0, 1) := by decide +kernel
theorem dMo_download_59 : decode bMo_download 59 = .ok (.getfield 56, 3) := by decide +kernel
theorem dMo_download_62 : decode bMo_download 62 = .ok (.iload_n 2, 1) := by decide +kernel
theorem dMo_download_63 : decode bMo_download 63 = .ok (.iaload, 1) := by decide +kernel
theorem dMo_download_64 : decode bMo_download 64 = .ok (.iastore, 1) := by decide +kernel
theorem dMo_download_65 : decode bMo_download 65 = .ok (.iload_n 1, 1) := by decide +kernel
theorem dMo_download_66 : decode bMo_download 66 = .ok (.aload_n 0, 1) := by decide +kernel
theorem dMo_download_67 : decode bMo_download 67 = .ok (.getfield 56, 3) := by decide +kernel
theorem dMo_download_70 : decode bMo_download 70 = .ok (.iload_n 2, 1) := by decide +kernel
theorem dMo_download_71 : decode bMo_download 71 = .ok (.iaload, 1) := by decide +kernel
theorem dMo_download_72 : decode bMo_download 72 = .ok (.iadd, 1) := by decide +kernel
theorem dMo_download_73 : decode bMo_download 73 = .ok (.istore_n 1, 1) := by decide +kernel
theorem dMo_download_74 : decode bMo_download 74 = .ok (.iinc 2 1, 3) := by decide +kernel
theorem dMo_download_77 : decode bMo_download 77 = .ok (.goto (-30), 3) := by decide +kernel
theorem dMo_download_80 : decode bMo_download 80 = .ok (.iload_n 1, 1) := by decide +kernel
theorem dMo_download_81 : decode bMo_download 81 = .ok (.ireturn, 1) := by decide +kernel
theorem dMo_wire_0 : decode bMo_wire 0 = .ok (.aload_n 0, 1) := by decide +kernel
theorem dMo_wire_1 : decode bMo_wire 1 = .ok (.iconst 0, 1) := by decide +kernel
theorem dMo_wire_2 : decode bMo_wire 2 = .ok (.putfield 74, 3) := by decide +kernel
theorem dMo_wire_5 : decode bMo_wire 5 = .ok (.iload_n 1, 1) := by decide +kernel
theorem dMo_wire_6 : decode bMo_wire 6 = .ok (.iconst 0, 1) := by decide +kernel
theorem dMo_wire_7 : decode bMo_wire 7 = .ok (.bipush 7, 2) := by decide +kernel
theorem dMo_wire_9 : decode bMo_wire 9 = .ok (.invokestatic 88, 3) := by decide +kernel
theorem dMo_wire_12 : decode bMo_wire 12 = .ok (.ifCond .eq 12, 3) := by decide +kernel
theorem dMo_wire_15 : decode bMo_wire 15 = .ok (.iload_n 2, 1) := by decide +kernel
theorem dMo_wire_16 : decode bMo_wire 16 = .ok (.iconst 0, 1) := by decide +kernel
theorem dMo_wire_17 : decode bMo_wire 17 = .ok (.iconst 1, 1) := by decide +kernel
theorem dMo_wire_18 : decode bMo_wire 18 = .ok (.invokestatic 88, 3) := by decide +kernel
theorem dMo_wire_21 : decode bMo_wire 21 = .ok (.ifCond .ne 9, 3) := by decide +kernel
theorem dMo_wire_24 : decode bMo_wire 24 = .ok (.aload_n 0, 1) := by decide +kernel
theorem dMo_wire_25 : decode bMo_wire 25 = .ok (.iconst 1, 1) := by decide +kernel
theorem dMo_wire_26 : decode bMo_wire 26 = .ok (.invokevirtual 92, 3) := by decide +kernel
theorem dMo_wire_29 : decode bMo_wire 29 = .ok (.ireturn, 1) := by decide +kernel
theorem dMo_wire_30 : decode bMo_wire 30 = .ok (.aload_n 0, 1) := by decide +kernel
theorem dMo_wire_31 : decode bMo_wire 31 = .ok (.getfield 16, 3) := by decide +kernel
theorem dMo_wire_34 : decode bMo_wire 34 = .ok (.iload_n 1, 1) := by decide +kernel
theorem dMo_wire_35 : decode bMo_wire 35 = .ok (.iaload, 1) := by decide +kernel
theorem dMo_wire_36 : decode bMo_wire 36 = .ok (.istore_n 3, 1) := by decide +kernel
theorem dMo_wire_37 : decode bMo_wire 37 = .ok (.aload_n 0, 1) := by decide +kernel
theorem dMo_wire_38 : decode bMo_wire 38 = .ok (.getfield 16, 3) := by decide +kernel
theorem dMo_wire_41 : decode bMo_wire 41 = .ok (.iload_n 1, 1) := by decide +kernel
theorem dMo_wire_42 : decode bMo_wire 42 = .ok (.iload_n 2, 1) := by decide +kernel
theorem dMo_wire_43 : decode bMo_wire 43 = .ok (.iastore, 1) := by decide +kernel
theorem dMo_wire_44 : decode bMo_wire 44 = .ok (.iload_n 3, 1) := by decide +kernel
theorem dMo_wire_45 : decode bMo_wire 45 = .ok (.ireturn, 1) := by decide +kernel
theorem dMo_put_0 : decode bMo_put 0 = .ok (.aload_n 0, 1) := by decide +kernel
theorem dMo_put_1 : decode bMo_put 1 = .ok (.iconst 0, 1) := by decide +kernel
theorem dMo_put_2 : decode bMo_put 2 = .ok (.putfield 74, 3) := by decide +kernel
theorem dMo_put_5 : decode bMo_put 5 = .ok (.iload_n 1, 1) := by decide +kernel
theorem dMo_put_6 : decode bMo_put 6 = .ok (.iconst 0, 1) := by decide +kernel
theorem dMo_put_7 : decode bMo_put 7 = .ok (.bipush 7, 2) := by decide +kernel
theorem dMo_put_9 : decode bMo_put 9 = .ok (.invokestatic 88, 3) := by decide +kernel
theorem dMo_put_12 : decode bMo_put 12 = .ok (.ifCond .eq 10, 3) := by decide +kernel
theorem dMo_put_15 : decode bMo_put 15 = .ok (.dload_n 2, 1) := by decide +kernel
theorem dMo_put_16 : decode bMo_put 16 = .ok (.invokestatic 99, 3) := by decide +kernel
theorem dMo_put_19 : decode bMo_put 19 = .ok (.ifCond .ne 10, 3) := by decide +kernel
theorem dMo_put_22 : decode bMo_put 22 = .ok (.aload_n 0, 1) := by decide +kernel
theorem dMo_put_23 : decode bMo_put 23 = .ok (.iconst 1, 1) := by decide +kernel
theorem dMo_put_24 : decode bMo_put 24 = .ok (.invokevirtual 92, 3) := by decide +kernel
theorem dMo_put_27 : decode bMo_put 27 = .ok (.i2d, 1) := by decide +kernel
theorem dMo_put_28 : decode bMo_put 28 = .ok (.dreturn, 1) := by decide +kernel
theorem dMo_put_29 : decode bMo_put 29 = .ok (.aload_n 0, 1) := by decide +kernel
theorem dMo_put_30 : decode bMo_put 30 = .ok (.getfield 22, 3) := by decide +kernel
theorem dMo_put_33 : decode bMo_put 33 = .ok (.iload_n 1, 1) := by decide +kernel
theorem dMo_put_34 : decode bMo_put 34 = .ok (.laload, 1) := by decide +kernel
theorem dMo_put_35 : decode bMo_put 35 = .ok (.lstore 4, 2) := by decide +kernel
theorem dMo_put_37 : decode bMo_put 37 = .ok (.aload_n 0, 1) := by decide +kernel
theorem dMo_put_38 : decode bMo_put 38 = .ok (.getfield 22, 3) := by decide +kernel
theorem dMo_put_41 : decode bMo_put 41 = .ok (.iload_n 1, 1) := by decide +kernel
theorem dMo_put_42 : decode bMo_put 42 = .ok (.dload_n 2, 1) := by decide +kernel
theorem dMo_put_43 : decode bMo_put 43 = .ok (.invokestatic 106, 3) := by decide +kernel
theorem dMo_put_46 : decode bMo_put 46 = .ok (.lastore, 1) := by decide +kernel
theorem dMo_put_47 : decode bMo_put 47 = .ok (.lload 4, 2) := by decide +kernel
theorem dMo_put_49 : decode bMo_put 49 = .ok (.l2d, 1) := by decide +kernel
theorem dMo_put_50 : decode bMo_put 50 = .ok (.ldc2_w 110, 3) := by decide +kernel
theorem dMo_put_53 : decode bMo_put 53 = .ok (.dmul, 1) := by decide +kernel
theorem dMo_put_54 : decode bMo_put 54 = .ok (.dreturn, 1) := by decide +kernel
theorem dMo_force_0 : decode bMo_force 0 = .ok (.aload_n 0, 1) := by decide +kernel
theorem dMo_force_1 : decode bMo_force 1 = .ok (.iconst 0, 1) := by decide +kernel
theorem dMo_force_2 : decode bMo_force 2 = .ok (.putfield 74, 3) := by decide +kernel
theorem dMo_force_5 : decode bMo_force 5 = .ok (.iload_n 1, 1) := by decide +kernel
theorem dMo_force_6 : decode bMo_force 6 = .ok (.iconst 0, 1) := by decide +kernel
theorem dMo_force_7 : decode bMo_force 7 = .ok (.bipush 31, 2) := by decide +kernel
theorem dMo_force_9 : decode bMo_force 9 = .ok (.invokestatic 88, 3) := by decide +kernel
theorem dMo_force_12 : decode bMo_force 12 = .ok (.ifCond .eq 12, 3) := by decide +kernel
theorem dMo_force_15 : decode bMo_force 15 = .ok (.iload_n 2, 1) := by decide +kernel
theorem dMo_force_16 : decode bMo_force 16 = .ok (.iconst (-1), 1) := by decide +kernel
theorem dMo_force_17 : decode bMo_force 17 = .ok (.iconst 1, 1) := by decide +kernel
theorem dMo_force_18 : decode bMo_force 18 = .ok (.invokestatic 88, 3) := by decide +kernel
theorem dMo_force_21 : decode bMo_force 21 = .ok (.ifCond .ne 9, 3) := by decide +kernel
theorem dMo_force_24 : decode bMo_force 24 = .ok (.aload_n 0, 1) := by decide +kernel
theorem dMo_force_25 : decode bMo_force 25 = .ok (.iconst 1, 1) := by decide +kernel
theorem dMo_force_26 : decode bMo_force 26 = .ok (.invokevirtual 92, 3) := by decide +kernel
theorem dMo_force_29 : decode bMo_force 29 = .ok (.ireturn, 1) := by decide +kernel
theorem dMo_force_30 : decode bMo_force 30 = .ok (.aload_n 0, 1) := by decide +kernel
theorem dMo_force_31 : decode bMo_force 31 = .ok (.getfield 13, 3) := by decide +kernel
theorem dMo_force_34 : decode bMo_force 34 = .ok (.iload_n 1, 1) := by decide +kernel
theorem dMo_force_35 : decode bMo_force 35 = .ok (.iaload, 1) := by decide +kernel
theorem dMo_force_36 : decode bMo_force 36 = .ok (.istore_n 3, 1) := by decide +kernel
theorem dMo_force_37 : decode bMo_force 37 = .ok (.aload_n 0, 1) := by decide +kernel
theorem dMo_force_38 : decode bMo_force 38 = .ok (.getfield 13, 3) := by decide +kernel
theorem dMo_force_41 : decode bMo_force 41 = .ok (.iload_n 1, 1) := by decide +kernel
theorem dMo_force_42 : decode bMo_force 42 = .ok (.iload_n 2, 1) := by decide +kernel
theorem dMo_force_43 : decode bMo_force 43 = .ok (.iastore, 1) := by decide +kernel
theorem dMo_force_44 : decode bMo_force 44 = .ok (.iload_n 3, 1) := by decide +kernel
theorem dMo_force_45 : decode bMo_force 45 = .ok (.ireturn, 1) := by decide +kernel
theorem dMo_read_0 : decode bMo_read 0 = .ok (.aload_n 0, 1) := by decide +kernel
theorem dMo_read_1 : decode bMo_read 1 = .ok (.getfield 13, 3) := by decide +kernel
theorem dMo_read_4 : decode bMo_read 4 = .ok (.iload_n 1, 1) := by decide +kernel
theorem dMo_read_5 : decode bMo_read 5 = .ok (.iaload, 1) := by decide +kernel
theorem dMo_read_6 : decode bMo_read 6 = .ok (.ifCond .ge 12, 3) := by decide +kernel
theorem dMo_read_9 : decode bMo_read 9 = .ok (.aload_n 0, 1) := by decide +kernel
theorem dMo_read_10 : decode bMo_read 10 = .ok (.getfield 7, 3) := by decide +kernel
theorem dMo_read_13 : decode bMo_read 13 = .ok (.iload_n 1, 1) := by decide +kernel
theorem dMo_read_14 : decode bMo_read 14 = .ok (.iaload, 1) := by decide +kernel
theorem dMo_read_15 : decode bMo_read 15 = .ok (.goto 9, 3) := by decide +kernel
theorem dMo_read_18 : decode bMo_read 18 = .ok (.aload_n 0, 1) := by decide +kernel
theorem dMo_read_19 : decode bMo_read 19 = .ok (.getfield 13, 3) := by decide +kernel
theorem dMo_read_22 : decode bMo_read 22 = .ok (.iload_n 1, 1) := by decide +kernel
theorem dMo_read_23 : decode bMo_read 23 = .ok (.iaload, 1) := by decide +kernel
theorem dMo_read_24 : decode bMo_read 24 = .ok (.ireturn, 1) := by decide +kernel
theorem dMo_calculate_0 : decode bMo_calculate 0 = .ok (.aload_n 0, 1) := by decide +kernel
theorem dMo_calculate_1 : decode bMo_calculate 1 = .ok (.getfield 22, 3) := by decide +kernel
theorem dMo_calculate_4 : decode bMo_calculate 4 = .ok (.aload_n 0, 1) := by decide +kernel
theorem dMo_calculate_5 : decode bMo_calculate 5 = .ok (.getfield 29, 3) := by decide +kernel
theorem dMo_calculate_8 : decode bMo_calculate 8 = .ok (.iload_n 1, 1) := by decide +kernel
theorem dMo_calculate_9 : decode bMo_calculate 9 = .ok (.iaload, 1) := by decide +kernel
theorem dMo_calculate_10 : decode bMo_calculate 10 = .ok (.laload, 1) := by decide +kernel
theorem dMo_calculate_11 : decode bMo_calculate 11 = .ok (.lstore_n 2, 1) := by decide +kernel
theorem dMo_calculate_12 : decode bMo_calculate 12 = .ok (.aload_n 0, 1) := by decide +kernel
theorem dMo_calculate_13 : decode bMo_calculate 13 = .ok (.getfield 26, 3) := by decide +kernel
theorem dMo_calculate_16 : decode bMo_calculate 16 = .ok (.iload_n 1, 1) := by decide +kernel
theorem dMo_calculate_17 : decode bMo_calculate 17 = .ok (.iaload, 1) := by decide +kernel
theorem dMo_calculate_18 : decode bMo_calculate 18 = .ok (.iconst 5, 1) := by decide +kernel
theorem dMo_calculate_19 : decode bMo_calculate 19 = .ok (.if_icmp .ne 42, 3) := by decide +kernel
theorem dMo_calculate_22 : decode bMo_calculate 22 = .ok (.aload_n 0, 1) := by decide +kernel
theorem dMo_calculate_23 : decode bMo_calculate 23 = .ok (.getfield 22, 3) := by decide +kernel
theorem dMo_calculate_26 : decode bMo_calculate 26 = .ok (.aload_n 0, 1) := by decide +kernel
theorem dMo_calculate_27 : decode bMo_calculate 27 = .ok (.getfield 32, 3) := by decide +kernel
theorem dMo_calculate_30 : decode bMo_calculate 30 = .ok (.iload_n 1, 1) := by decide +kernel
theorem dMo_calculate_31 : decode bMo_calculate 31 = .ok (.iaload, 1) := by decide +kernel
theorem dMo_calculate_32 : decode bMo_calculate 32 = .ok (.lload_n 2, 1) := by decide +kernel
theorem dMo_calculate_33 : decode bMo_calculate 33 = .ok (.aload_n 0, 1) := by decide +kernel
theorem dMo_calculate_34 : decode bMo_calculate 34 = .ok (.getfield 35, 3) := by decide +kernel
theorem dMo_calculate_37 : decode bMo_calculate 37 = .ok (.iload_n 1, 1) := by decide +kernel
theorem dMo_calculate_38 : decode bMo_calculate 38 = .ok (.laload, 1) := by decide +kernel
theorem dMo_calculate_39 : decode bMo_calculate 39 = .ok (.lmul, 1) := by decide +kernel
theorem dMo_calculate_40 : decode bMo_calculate 40 = .ok (.ldc2_w 123, 3) := by decide +kernel
theorem dMo_calculate_43 : decode bMo_calculate 43 = .ok (.aload_n 0, 1) := by decide +kernel
theorem dMo_calculate_44 : decode bMo_calculate 44 = .ok (.getfield 38, 3) := by decide +kernel
theorem dMo_calculate_47 : decode bMo_calculate 47 = .ok (.iload_n 1, 1) := by decide +kernel
theorem dMo_calculate_48 : decode bMo_calculate 48 = .ok (.laload, 1) := by decide +kernel
theorem dMo_calculate_49 : decode bMo_calculate 49 = .ok (.lmul, 1) := by decide +kernel
theorem dMo_calculate_50 : decode bMo_calculate 50 = .ok (.ladd, 1) := by decide +kernel
theorem dMo_calculate_51 : decode bMo_calculate 51 = .ok (.ldc2_w 123, 3) := by decide +kernel
theorem dMo_calculate_54 : decode bMo_calculate 54 = .ok (.invokestatic 125, 3) := by decide +kernel
theorem dMo_calculate_57 : decode bMo_calculate 57 = .ok (.invokestatic 129, 3) := by decide +kernel
theorem dMo_calculate_60 : decode bMo_calculate 60 = .ok (.lastore, 1) := by decide +kernel
theorem dMo_calculate_61 : decode bMo_calculate 61 = .ok (.aload_n 0, 1) := by decide +kernel
theorem dMo_calculate_62 : decode bMo_calculate 62 = .ok (.getfield 26, 3) := by decide +kernel
theorem dMo_calculate_65 : decode bMo_calculate 65 = .ok (.iload_n 1, 1) := by decide +kernel
theorem dMo_calculate_66 : decode bMo_calculate 66 = .ok (.iaload, 1) := by decide +kernel
theorem dMo_calculate_67 : decode bMo_calculate 67 = .ok (.bipush 7, 2) := by decide +kernel
theorem dMo_calculate_69 : decode bMo_calculate 69 = .ok (.if_icmp .ne 55, 3) := by decide +kernel
theorem dMo_calculate_72 : decode bMo_calculate 72 = .ok (.aload_n 0, 1) := by decide +kernel
theorem dMo_calculate_73 : decode bMo_calculate 73 = .ok (.getfield 22, 3) := by decide +kernel
theorem dMo_calculate_76 : decode bMo_calculate 76 = .ok (.aload_n 0, 1) := by decide +kernel
theorem dMo_calculate_77 : decode bMo_calculate 77 = .ok (.getfield 32, 3) := by decide +kernel
theorem dMo_calculate_80 : decode bMo_calculate 80 = .ok (.iload_n 1, 1) := by decide +kernel
theorem dMo_calculate_81 : decode bMo_calculate 81 = .ok (.iaload, 1) := by decide +kernel
theorem dMo_calculate_82 : decode bMo_calculate 82 = .ok (.lload_n 2, 1) := by decide +kernel
theorem dMo_calculate_83 : decode bMo_calculate 83 = .ok (.aload_n 0, 1) := by decide +kernel
theorem dMo_calculate_84 : decode bMo_calculate 84 = .ok (.getfield 38, 3) := by decide +kernel
theorem dMo_calculate_87 : decode bMo_calculate 87 = .ok (.iload_n 1, 1) := by decide +kernel
theorem dMo_calculate_88 : decode bMo_calculate 88 = .ok (.laload, 1) := by decide +kernel
theorem dMo_calculate_89 : decode bMo_calculate 89 = .ok (.lcmp, 1) := by decide +kernel
theorem dMo_calculate_90 : decode bMo_calculate 90 = .ok (.ifCond .ge 12, 3) := by decide +kernel
theorem dMo_calculate_93 : decode bMo_calculate 93 = .ok (.aload_n 0, 1) := by decide +kernel
theorem dMo_calculate_94 : decode bMo_calculate 94 = .ok (.getfield 38, 3) := by decide +kernel
theorem dMo_calculate_97 : decode bMo_calculate 97 = .ok (.iload_n 1, 1) := by decide +kernel
theorem dMo_calculate_98 : decode bMo_calculate 98 = .ok (.laload, 1) := by decide +kernel
theorem dMo_calculate_99 : decode bMo_calculate 99 = .ok (.goto 24, 3) := by decide +kernel
theorem dMo_calculate_102 : decode bMo_calculate 102 = .ok (.lload_n 2, 1) := by decide +kernel
theorem dMo_calculate_103 : decode bMo_calculate 103 = .ok (.aload_n 0, 1) := by decide +kernel
theorem dMo_calculate_104 : decode bMo_calculate 104 = .ok (.getfield 35, 3) := by decide +kernel
theorem dMo_calculate_107 : decode bMo_calculate 107 = .ok (.iload_n 1, 1) := by decide +kernel
theorem dMo_calculate_108 : decode bMo_calculate 108 = .ok (.laload, 1) := by decide +kernel
theorem dMo_calculate_109 : decode bMo_calculate 109 = .ok (.lcmp, 1) := by decide +kernel
theorem dMo_calculate_110 : decode bMo_calculate 110 = .ok (.ifCond .le 12, 3) := by decide +kernel
theorem dMo_calculate_113 : decode bMo_calculate 113 = .ok (.aload_n 0, 1) := by decide +kernel
theorem dMo_calculate_114 : decode bMo_calculate 114 = .ok (.getfield 35, 3) := by decide +kernel
theorem dMo_calculate_117 : decode bMo_calculate 117 = .ok (.iload_n 1, 1) := by decide +kernel
theorem dMo_calculate_118 : decode bMo_calculate 118 = .ok (.laload, 1) := by decide +kernel
theorem dMo_calculate_119 : decode bMo_calculate 119 = .ok (.goto 4, 3) := by decide +kernel
theorem dMo_calculate_122 : decode bMo_calculate 122 = .ok (.lload_n 2, 1) := by decide +kernel
theorem dMo_calculate_123 : decode bMo_calculate 123 = .ok (.lastore, 1) := by decide +kernel
theorem dMo_calculate_124 : decode bMo_calculate 124 = .ok (.aload_n 0, 1) := by decide +kernel
theorem dMo_calculate_125 : decode bMo_calculate 125 = .ok (.getfield 26, 3) := by decide +kernel
theorem dMo_calculate_128 : decode bMo_calculate 128 = .ok (.iload_n 1, 1) := by decide +kernel
theorem dMo_calculate_129 : decode bMo_calculate 129 = .ok (.iaload, 1) := by decide +kernel
theorem dMo_calculate_130 : decode bMo_calculate 130 = .ok (.bipush 6, 2) := by decide +kernel
theorem dMo_calculate_132 : decode bMo_calculate 132 = .ok (.if_icmp .eq 4, 3) := by decide +kernel
theorem dMo_calculate_135 : decode bMo_calculate 135 = .ok (.return_, 1) := by decide +kernel
theorem dMo_calculate_136 : decode bMo_calculate 136 = .ok (.aload_n 0, 1) := by decide +kernel
theorem dMo_calculate_137 : decode bMo_calculate 137 = .ok (.getfield 35, 3) := by decide +kernel
theorem dMo_calculate_140 : decode bMo_calculate 140 = .ok (.iload_n 1, 1) := by decide +kernel
theorem dMo_calculate_141 : decode bMo_calculate 141 = .ok (.laload, 1) := by decide +kernel
theorem dMo_calculate_142 : decode bMo_calculate 142 = .ok (.lconst 0, 1) := by decide +kernel
theorem dMo_calculate_143 : decode bMo_calculate 143 = .ok (.lcmp, 1) := by decide +kernel
theorem dMo_calculate_144 : decode bMo_calculate 144 = .ok (.ifCond .ne 11, 3) := by decide +kernel
theorem dMo_calculate_147 : decode bMo_calculate 147 = .ok (.aload_n 0, 1) := by decide +kernel
theorem dMo_calculate_148 : decode bMo_calculate 148 = .ok (.iconst 3, 1) := by decide +kernel
theorem dMo_calculate_149 : decode bMo_calculate 149 = .ok (.putfield 133, 3) := by decide +kernel
theorem dMo_calculate_152 : decode bMo_calculate 152 = .ok (.goto 31, 3) := by decide +kernel
theorem dMo_calculate_155 : decode bMo_calculate 155 = .ok (.aload_n 0, 1) := by decide +kernel
theorem dMo_calculate_156 : decode bMo_calculate 156 = .ok (.getfield 22, 3) := by decide +kernel
theorem dMo_calculate_159 : decode bMo_calculate 159 = .ok (.aload_n 0, 1) := by decide +kernel
theorem dMo_calculate_160 : decode bMo_calculate 160 = .ok (.getfield 32, 3) := by decide +kernel
theorem dMo_calculate_163 : decode bMo_calculate 163 = .ok (.iload_n 1, 1) := by decide +kernel
theorem dMo_calculate_164 : decode bMo_calculate 164 = .ok (.iaload, 1) := by decide +kernel
theorem dMo_calculate_165 : decode bMo_calculate 165 = .ok (.ldc2_w 123, 3) := by decide +kernel
theorem dMo_calculate_168 : decode bMo_calculate 168 = .ok (.lload_n 2, 1) := by decide +kernel
theorem dMo_calculate_169 : decode bMo_calculate 169 = .ok (.lmul, 1) := by decide +kernel
theorem dMo_calculate_170 : decode bMo_calculate 170 = .ok (.aload_n 0, 1) := by decide +kernel
theorem dMo_calculate_171 : decode bMo_calculate 171 = .ok (.getfield 35, 3) := by decide +kernel
theorem dMo_calculate_174 : decode bMo_calculate 174 = .ok (.iload_n 1, 1) := by decide +kernel
theorem dMo_calculate_175 : decode bMo_calculate 175 = .ok (.laload, 1) := by decide +kernel
theorem dMo_calculate_176 : decode bMo_calculate 176 = .ok (.invokestatic 125, 3) := by decide +kernel
theorem dMo_calculate_179 : decode bMo_calculate 179 = .ok (.invokestatic 129, 3) := by decide +kernel
theorem dMo_calculate_182 : decode bMo_calculate 182 = .ok (.lastore, 1) := by decide +kernel
theorem dMo_calculate_183 : decode bMo_calculate 183 = .ok (.return_, 1) := by decide +kernel
theorem dMo_work_0 : decode bMo_work 0 = .ok (.aload_n 0, 1) := by decide +kernel
theorem dMo_work_1 : decode bMo_work 1 = .ok (.getfield 29, 3) := by decide +kernel
theorem dMo_work_4 : decode bMo_work 4 = .ok (.iload_n 1, 1) := by decide +kernel
theorem dMo_work_5 : decode bMo_work 5 = .ok (.iaload, 1) := by decide +kernel
theorem dMo_work_6 : decode bMo_work 6 = .ok (.istore_n 3, 1) := by decide +kernel
theorem dMo_work_7 : decode bMo_work 7 = .ok (.aload_n 0, 1) := by decide +kernel
theorem dMo_work_8 : decode bMo_work 8 = .ok (.getfield 26, 3) := by decide +kernel
theorem dMo_work_11 : decode bMo_work 11 = .ok (.iload_n 1, 1) := by decide +kernel
theorem dMo_work_12 : decode bMo_work 12 = .ok (.iaload, 1) := by decide +kernel
theorem dMo_work_13 : decode bMo_work 13 = .ok (.tableswitch 297 0 4 #[35, 100, 159, 241, 269], 35) := by decide +kernel
theorem dMo_work_48 : decode bMo_work 48 = .ok (.aload_n 0, 1) := by decide +kernel
theorem dMo_work_49 : decode bMo_work 49 = .ok (.getfield 44, 3) := by decide +kernel
theorem dMo_work_52 : decode bMo_work 52 = .ok (.iload_n 1, 1) := by decide +kernel
theorem dMo_work_53 : decode bMo_work 53 = .ok (.iload_n 2, 1) := by decide +kernel
theorem dMo_work_54 : decode bMo_work 54 = .ok (.ifCond .ne 7, 3) := by decide +kernel
theorem dMo_work_57 : decode bMo_work 57 = .ok (.iconst 0, 1) := by decide +kernel
theorem dMo_work_58 : decode bMo_work 58 = .ok (.goto 25, 3) := by decide +kernel
theorem dMo_work_61 : decode bMo_work 61 = .ok (.aload_n 0, 1) := by decide +kernel
theorem dMo_work_62 : decode bMo_work 62 = .ok (.getfield 44, 3) := by decide +kernel
theorem dMo_work_65 : decode bMo_work 65 = .ok (.iload_n 1, 1) := by decide +kernel
theorem dMo_work_66 : decode bMo_work 66 = .ok (.iaload, 1) := by decide +kernel
theorem dMo_work_67 : decode bMo_work 67 = .ok (.iload_n 3, 1) := by decide +kernel
theorem dMo_work_68 : decode bMo_work 68 = .ok (.if_icmp .ge 14, 3) := by decide +kernel
theorem dMo_work_71 : decode bMo_work 71 = .ok (.aload_n 0, 1) := by decide +kernel
theorem dMo_work_72 : decode bMo_work 72 = .ok (.getfield 44, 3) := by decide +kernel
theorem dMo_work_75 : decode bMo_work 75 = .ok (.iload_n 1, 1) := by decide +kernel
theorem dMo_work_76 : decode bMo_work 76 = .ok (.iaload, 1) := by decide +kernel
theorem dMo_work_77 : decode bMo_work 77 = .ok (.iconst 1, 1) := by decide +kernel
theorem dMo_work_78 : decode bMo_work 78 = .ok (.iadd, 1) := by decide +kernel
theorem dMo_work_79 : decode bMo_work 79 = .ok (.goto 4, 3) := by decide +kernel
theorem dMo_work_82 : decode bMo_work 82 = .ok (.iload_n 3, 1) := by decide +kernel
theorem dMo_work_83 : decode bMo_work 83 = .ok (.iastore, 1) := by decide +kernel
theorem dMo_work_84 : decode bMo_work 84 = .ok (.aload_n 0, 1) := by decide +kernel
theorem dMo_work_85 : decode bMo_work 85 = .ok (.getfield 41, 3) := by decide +kernel
theorem dMo_work_88 : decode bMo_work 88 = .ok (.iload_n 1, 1) := by decide +kernel
theorem dMo_work_89 : decode bMo_work 89 = .ok (.iload_n 2, 1) := by decide +kernel
theorem dMo_work_90 : decode bMo_work 90 = .ok (.iconst 1, 1) := by decide +kernel
theorem dMo_work_91 : decode bMo_work 91 = .ok (.if_icmp .ne 17, 3) := by decide +kernel
theorem dMo_work_94 : decode bMo_work 94 = .ok (.aload_n 0, 1) := by decide +kernel
theorem dMo_work_95 : decode bMo_work 95 = .ok (.getfield 44, 3) := by decide +kernel
theorem dMo_work_98 : decode bMo_work 98 = .ok (.iload_n 1, 1) := by decide +kernel
theorem dMo_work_99 : decode bMo_work 99 = .ok (.iaload, 1) := by decide +kernel
theorem dMo_work_100 : decode bMo_work 100 = .ok (.iload_n 3, 1) := by decide +kernel
theorem dMo_work_101 : decode bMo_work 101 = .ok (.if_icmp .ne 7, 3) := by decide +kernel
theorem dMo_work_104 : decode bMo_work 104 = .ok (.iconst 1, 1) := by decide +kernel
theorem dMo_work_105 : decode bMo_work 105 = .ok (.goto 4, 3) := by decide +kernel
theorem dMo_work_108 : decode bMo_work 108 = .ok (.iconst 0, 1) := by decide +kernel
theorem dMo_work_109 : decode bMo_work 109 = .ok (.iastore, 1) := by decide +kernel
theorem dMo_work_110 : decode bMo_work 110 = .ok (.goto 224, 3) := by decide +kernel
theorem dMo_work_113 : decode bMo_work 113 = .ok (.aload_n 0, 1) := by decide +kernel
theorem dMo_work_114 : decode bMo_work 114 = .ok (.getfield 44, 3) := by decide +kernel
theorem dMo_work_117 : decode bMo_work 117 = .ok (.iload_n 1, 1) := by decide +kernel
theorem dMo_work_118 : decode bMo_work 118 = .ok (.iload_n 2, 1) := by decide +kernel
theorem dMo_work_119 : decode bMo_work 119 = .ok (.iconst 1, 1) := by decide +kernel
theorem dMo_work_120 : decode bMo_work 120 = .ok (.if_icmp .ne 7, 3) := by decide +kernel
theorem dMo_work_123 : decode bMo_work 123 = .ok (.iload_n 3, 1) := by decide +kernel
theorem dMo_work_124 : decode bMo_work 124 = .ok (.goto 24, 3) := by decide +kernel
theorem dMo_work_127 : decode bMo_work 127 = .ok (.aload_n 0, 1) := by decide +kernel
theorem dMo_work_128 : decode bMo_work 128 = .ok (.getfield 44, 3) := by decide +kernel
theorem dMo_work_131 : decode bMo_work 131 = .ok (.iload_n 1, 1) := by decide +kernel
theorem dMo_work_132 : decode bMo_work 132 = .ok (.iaload, 1) := by decide +kernel
theorem dMo_work_133 : decode bMo_work 133 = .ok (.ifCond .le 14, 3) := by decide +kernel
theorem dMo_work_136 : decode bMo_work 136 = .ok (.aload_n 0, 1) := by decide +kernel
theorem dMo_work_137 : decode bMo_work 137 = .ok (.getfield 44, 3) := by decide +kernel
theorem dMo_work_140 : decode bMo_work 140 = .ok (.iload_n 1, 1) := by decide +kernel
theorem dMo_work_141 : decode bMo_work 141 = .ok (.iaload, 1) := by decide +kernel
theorem dMo_work_142 : decode bMo_work 142 = .ok (.iconst 1, 1) := by decide +kernel
theorem dMo_work_143 : decode bMo_work 143 = .ok (.isub, 1) := by decide +kernel
theorem dMo_work_144 : decode bMo_work 144 = .ok (.goto 4, 3) := by decide +kernel
theorem dMo_work_147 : decode bMo_work 147 = .ok (.iconst 0, 1) := by decide +kernel
theorem dMo_work_148 : decode bMo_work 148 = .ok (.iastore, 1) := by decide +kernel
theorem dMo_work_149 : decode bMo_work 149 = .ok (.aload_n 0, 1) := by decide +kernel
theorem dMo_work_150 : decode bMo_work 150 = .ok (.getfield 41, 3) := by decide +kernel
theorem dMo_work_153 : decode bMo_work 153 = .ok (.iload_n 1, 1) := by decide +kernel
theorem dMo_work_154 : decode bMo_work 154 = .ok (.aload_n 0, 1) := by decide +kernel
theorem dMo_work_155 : decode bMo_work 155 = .ok (.getfield 44, 3) := by decide +kernel
theorem dMo_work_158 : decode bMo_work 158 = .ok (.iload_n 1, 1) := by decide +kernel
theorem dMo_work_159 : decode bMo_work 159 = .ok (.iaload, 1) := by decide +kernel
theorem dMo_work_160 : decode bMo_work 160 = .ok (.ifCond .le 7, 3) := by decide +kernel
theorem dMo_work_163 : decode bMo_work 163 = .ok (.iconst 1, 1) := by decide +kernel
theorem dMo_work_164 : decode bMo_work 164 = .ok (.goto 4, 3) := by decide +kernel
theorem dMo_work_167 : decode bMo_work 167 = .ok (.iconst 0, 1) := by decide +kernel
theorem dMo_work_168 : decode bMo_work 168 = .ok (.iastore, 1) := by decide +kernel
theorem dMo_work_169 : decode bMo_work 169 = .ok (.goto 165, 3) := by decide +kernel
theorem dMo_work_172 : decode bMo_work 172 = .ok (.aload_n 0, 1) := by decide +kernel
theorem dMo_work_173 : decode bMo_work 173 = .ok (.aload_n 0, 1) := by decide +kernel
theorem dMo_work_174 : decode bMo_work 174 = .ok (.getfield 32, 3) := by decide +kernel
theorem dMo_work_177 : decode bMo_work 177 = .ok (.iload_n 1, 1) := by decide +kernel
theorem dMo_work_178 : decode bMo_work 178 = .ok (.iaload, 1) := by decide +kernel
theorem dMo_work_179 : decode bMo_work 179 = .ok (.invokevirtual 136, 3) := by decide +kernel
theorem dMo_work_182 : decode bMo_work 182 = .ok (.iconst 1, 1) := by decide +kernel
theorem dMo_work_183 : decode bMo_work 183 = .ok (.if_icmp .ne 13, 3) := by decide +kernel
theorem dMo_work_186 : decode bMo_work 186 = .ok (.aload_n 0, 1) := by decide +kernel
theorem dMo_work_187 : decode bMo_work 187 = .ok (.getfield 44, 3) := by decide +kernel
theorem dMo_work_190 : decode bMo_work 190 = .ok (.iload_n 1, 1) := by decide +kernel
theorem dMo_work_191 : decode bMo_work 191 = .ok (.iconst 0, 1) := by decide +kernel
theorem dMo_work_192 : decode bMo_work 192 = .ok (.iastore, 1) := by decide +kernel
theorem dMo_work_193 : decode bMo_work 193 = .ok (.goto 37, 3) := by decide +kernel
theorem dMo_work_196 : decode bMo_work 196 = .ok (.iload_n 2, 1) := by decide +kernel
theorem dMo_work_197 : decode bMo_work 197 = .ok (.iconst 1, 1) := by decide +kernel
theorem dMo_work_198 : decode bMo_work 198 = .ok (.if_icmp .ne 32, 3) := by decide +kernel
theorem dMo_work_201 : decode bMo_work 201 = .ok (.aload_n 0, 1) := by decide +kernel
theorem dMo_work_202 : decode bMo_work 202 = .ok (.getfield 47, 3) := by decide +kernel
theorem dMo_work_205 : decode bMo_work 205 = .ok (.iload_n 1, 1) := by decide +kernel
theorem dMo_work_206 : decode bMo_work 206 = .ok (.iaload, 1) := by decide +kernel
theorem dMo_work_207 : decode bMo_work 207 = .ok (.ifCond .ne 23, 3) := by decide +kernel
theorem dMo_work_210 : decode bMo_work 210 = .ok (.aload_n 0, 1) := by decide +kernel
theorem dMo_work_211 : decode bMo_work 211 = .ok (.getfield 44, 3) := by decide +kernel
theorem dMo_work_214 : decode bMo_work 214 = .ok (.iload_n 1, 1) := by decide +kernel
theorem dMo_work_215 : decode bMo_work 215 = .ok (.iaload, 1) := by decide +kernel
theorem dMo_work_216 : decode bMo_work 216 = .ok (.iload_n 3, 1) := by decide +kernel
theorem dMo_work_217 : decode bMo_work 217 = .ok (.if_icmp .ge 13, 3) := by decide +kernel
theorem dMo_work_220 : decode bMo_work 220 = .ok (.aload_n 0, 1) := by decide +kernel
theorem dMo_work_221 : decode bMo_work 221 = .ok (.getfield 44, 3) := by decide +kernel
theorem dMo_work_224 : decode bMo_work 224 = .ok (.iload_n 1, 1) := by decide +kernel
theorem dMo_work_225 : decode bMo_work 225 = .ok (.dup2, 1) := by decide +kernel
theorem dMo_work_226 : decode bMo_work 226 = .ok (.iaload, 1) := by decide +kernel
theorem dMo_work_227 : decode bMo_work 227 = .ok (.iconst 1, 1) := by decide +kernel
theorem dMo_work_228 : decode bMo_work 228 = .ok (.iadd, 1) := by decide +kernel
theorem dMo_work_229 : decode bMo_work 229 = .ok (.iastore, 1) := by decide +kernel
theorem dMo_work_230 : decode bMo_work 230 = .ok (.aload_n 0, 1) := by decide +kernel
theorem dMo_work_231 : decode bMo_work 231 = .ok (.getfield 41, 3) := by decide +kernel
theorem dMo_work_234 : decode bMo_work 234 = .ok (.iload_n 1, 1) := by decide +kernel
theorem dMo_work_235 : decode bMo_work 235 = .ok (.aload_n 0, 1) := by decide +kernel
theorem dMo_work_236 : decode bMo_work 236 = .ok (.getfield 44, 3) := by decide +kernel
theorem dMo_work_239 : decode bMo_work 239 = .ok (.iload_n 1, 1) := by decide +kernel
theorem dMo_work_240 : decode bMo_work 240 = .ok (.iaload, 1) := by decide +kernel
theorem dMo_work_241 : decode bMo_work 241 = .ok (.iload_n 3, 1) := by decide +kernel
theorem dMo_work_242 : decode bMo_work 242 = .ok (.if_icmp .ne 7, 3) := by decide +kernel
theorem dMo_work_245 : decode bMo_work 245 = .ok (.iconst 1, 1) := by decide +kernel
theorem dMo_work_246 : decode bMo_work 246 = .ok (.goto 4, 3) := by decide +kernel
theorem dMo_work_249 : decode bMo_work 249 = .ok (.iconst 0, 1) := by decide +kernel
theorem dMo_work_250 : decode bMo_work 250 = .ok (.iastore, 1) := by decide +kernel
theorem dMo_work_251 : decode bMo_work 251 = .ok (.goto 83, 3) := by decide +kernel
theorem dMo_work_254 : decode bMo_work 254 = .ok (.aload_n 0, 1) := by decide +kernel
theorem dMo_work_255 : decode bMo_work 255 = .ok (.getfield 41, 3) := by decide +kernel
theorem dMo_work_258 : decode bMo_work 258 = .ok (.iload_n 1, 1) := by decide +kernel
theorem dMo_work_259 : decode bMo_work 259 = .ok (.iload_n 2, 1) := by decide +kernel
theorem dMo_work_260 : decode bMo_work 260 = .ok (.iconst 1, 1) := by decide +kernel
theorem dMo_work_261 : decode bMo_work 261 = .ok (.if_icmp .ne 16, 3) := by decide +kernel
theorem dMo_work_264 : decode bMo_work 264 = .ok (.aload_n 0, 1) := by decide +kernel
theorem dMo_work_265 : decode bMo_work 265 = .ok (.getfield 47, 3) := by decide +kernel
theorem dMo_work_268 : decode bMo_work 268 = .ok (.iload_n 1, 1) := by decide +kernel
theorem dMo_work_269 : decode bMo_work 269 = .ok (.iaload, 1) := by decide +kernel
theorem dMo_work_270 : decode bMo_work 270 = .ok (.ifCond .ne 7, 3) := by decide +kernel
theorem dMo_work_273 : decode bMo_work 273 = .ok (.iconst 1, 1) := by decide +kernel
theorem dMo_work_274 : decode bMo_work 274 = .ok (.goto 4, 3) := by decide +kernel
theorem dMo_work_277 : decode bMo_work 277 = .ok (.iconst 0, 1) := by decide +kernel
theorem dMo_work_278 : decode bMo_work 278 = .ok (.iastore, 1) := by decide +kernel
theorem dMo_work_279 : decode bMo_work 279 = .ok (.goto 55, 3) := by decide +kernel
theorem dMo_work_282 : decode bMo_work 282 = .ok (.aload_n 0, 1) := by decide +kernel
theorem dMo_work_283 : decode bMo_work 283 = .ok (.getfield 41, 3) := by decide +kernel
theorem dMo_work_286 : decode bMo_work 286 = .ok (.iload_n 1, 1) := by decide +kernel
theorem dMo_work_287 : decode bMo_work 287 = .ok (.iload_n 2, 1) := by decide +kernel
theorem dMo_work_288 : decode bMo_work 288 = .ok (.ifCond .ne 17, 3) := by decide +kernel
theorem dMo_work_291 : decode bMo_work 291 = .ok (.aload_n 0, 1) := by decide +kernel
theorem dMo_work_292 : decode bMo_work 292 = .ok (.getfield 47, 3) := by decide +kernel
theorem dMo_work_295 : decode bMo_work 295 = .ok (.iload_n 1, 1) := by decide +kernel
theorem dMo_work_296 : decode bMo_work 296 = .ok (.iaload, 1) := by decide +kernel
theorem dMo_work_297 : decode bMo_work 297 = .ok (.iconst 1, 1) := by decide +kernel
theorem dMo_work_298 : decode bMo_work 298 = .ok (.if_icmp .ne 7, 3) := by decide +kernel
theorem dMo_work_301 : decode bMo_work 301 = .ok (.iconst 1, 1) := by decide +kernel
theorem dMo_work_302 : decode bMo_work 302 = .ok (.goto 4, 3) := by decide +kernel
theorem dMo_work_305 : decode bMo_work 305 = .ok (.iconst 0, 1) := by decide +kernel
theorem dMo_work_306 : decode bMo_work 306 = .ok (.iastore, 1) := by decide +kernel
theorem dMo_work_307 : decode bMo_work 307 = .ok (.goto 27, 3) := by decide +kernel
theorem dMo_work_310 : decode bMo_work 310 = .ok (.iload_n 2, 1) := by decide +kernel
theorem dMo_work_311 : decode bMo_work 311 = .ok (.iconst 1, 1) := by decide +kernel
theorem dMo_work_312 : decode bMo_work 312 = .ok (.if_icmp .ne 8, 3) := by decide +kernel
theorem dMo_work_315 : decode bMo_work 315 = .ok (.aload_n 0, 1) := by decide +kernel
theorem dMo_work_316 : decode bMo_work 316 = .ok (.iload_n 1, 1) := by decide +kernel
theorem dMo_work_317 : decode bMo_work 317 = .ok (.invokevirtual 139, 3) := by decide +kernel
theorem dMo_work_320 : decode bMo_work 320 = .ok (.aload_n 0, 1) := by decide +kernel
theorem dMo_work_321 : decode bMo_work 321 = .ok (.getfield 133, 3) := by decide +kernel
theorem dMo_work_324 : decode bMo_work 324 = .ok (.ifCond .ne 10, 3) := by decide +kernel
theorem dMo_work_327 : decode bMo_work 327 = .ok (.aload_n 0, 1) := by decide +kernel
theorem dMo_work_328 : decode bMo_work 328 = .ok (.getfield 41, 3) := by decide +kernel
theorem dMo_work_331 : decode bMo_work 331 = .ok (.iload_n 1, 1) := by decide +kernel
theorem dMo_work_332 : decode bMo_work 332 = .ok (.iload_n 2, 1) := by decide +kernel
theorem dMo_work_333 : decode bMo_work 333 = .ok (.iastore, 1) := by decide +kernel
theorem dMo_work_334 : decode bMo_work 334 = .ok (.aload_n 0, 1) := by decide +kernel
theorem dMo_work_335 : decode bMo_work 335 = .ok (.getfield 133, 3) := by decide +kernel
theorem dMo_work_338 : decode bMo_work 338 = .ok (.ifCond .ne 10, 3) := by decide +kernel
theorem dMo_work_341 : decode bMo_work 341 = .ok (.aload_n 0, 1) := by decide +kernel
theorem dMo_work_342 : decode bMo_work 342 = .ok (.getfield 47, 3) := by decide +kernel
theorem dMo_work_345 : decode bMo_work 345 = .ok (.iload_n 1, 1) := by decide +kernel
theorem dMo_work_346 : decode bMo_work 346 = .ok (.iload_n 2, 1) := by decide +kernel
theorem dMo_work_347 : decode bMo_work 347 = .ok (.iastore, 1) := by decide +kernel
theorem dMo_work_348 : decode bMo_work 348 = .ok (.return_, 1) := by decide +kernel
theorem dMo_push_0 : decode bMo_push 0 = .ok (.aload_n 0, 1) := by decide +kernel
theorem dMo_push_1 : decode bMo_push 1 = .ok (.getfield 71, 3) := by decide +kernel
theorem dMo_push_4 : decode bMo_push 4 = .ok (.aload_n 0, 1) := by decide +kernel
theorem dMo_push_5 : decode bMo_push 5 = .ok (.getfield 143, 3) := by decide +kernel
theorem dMo_push_8 : decode bMo_push 8 = .ok (.iload_n 1, 1) := by decide +kernel
theorem dMo_push_9 : decode bMo_push 9 = .ok (.iastore, 1) := by decide +kernel
theorem dMo_push_10 : decode bMo_push 10 = .ok (.aload_n 0, 1) := by decide +kernel
theorem dMo_push_11 : decode bMo_push 11 = .ok (.dup, 1) := by decide +kernel
theorem dMo_push_12 : decode bMo_push 12 = .ok (.getfield 143, 3) := by decide +kernel
theorem dMo_push_15 : decode bMo_push 15 = .ok (.iconst 1, 1) := by decide +kernel
theorem dMo_push_16 : decode bMo_push 16 = .ok (.iadd, 1) := by decide +kernel
theorem dMo_push_17 : decode bMo_push 17 = .ok (.putfield 143, 3) := by decide +kernel
theorem dMo_push_20 : decode bMo_push 20 = .ok (.return_, 1) := by decide +kernel
theorem dMo_perform_0 : decode bMo_perform 0 = .ok (.aload_n 0, 1) := by decide +kernel
theorem dMo_perform_1 : decode bMo_perform 1 = .ok (.getfield 143, 3) := by decide +kernel
theorem dMo_perform_4 : decode bMo_perform 4 = .ok (.ifCond .le 17, 3) := by decide +kernel
theorem dMo_perform_7 : decode bMo_perform 7 = .ok (.aload_n 0, 1) := by decide +kernel
theorem dMo_perform_8 : decode bMo_perform 8 = .ok (.getfield 71, 3) := by decide +kernel
theorem dMo_perform_11 : decode bMo_perform 11 = .ok (.aload_n 0, 1) := by decide +kernel
theorem dMo_perform_12 : decode bMo_perform 12 = .ok (.getfield 143, 3) := by decide +kernel
theorem dMo_perform_15 : decode bMo_perform 15 = .ok (.iconst 1, 1) := by decide +kernel
theorem dMo_perform_16 : decode bMo_perform 16 = .ok (.isub, 1) := by decide +kernel
theorem dMo_perform_17 : decode bMo_perform 17 = .ok (.iaload, 1) := by decide +kernel
theorem dMo_perform_18 : decode bMo_perform 18 = .ok (.goto 4, 3) := by decide +kernel
theorem dMo_perform_21 : decode bMo_perform 21 = .ok (.iconst 0, 1) := by decide +kernel
theorem dMo_perform_22 : decode bMo_perform 22 = .ok (.istore_n 3, 1) := by decide +kernel
theorem dMo_perform_23 : decode bMo_perform 23 = .ok (.iload_n 1, 1) := by decide +kernel
theorem dMo_perform_24 : decode bMo_perform 24 = .ok (.tableswitch 341 0 12 #[68, 80, 94, 115, 138, 159, 182, 182, 241, 275, 301, 311, 326], 68) := by decide +kernel
theorem dMo_perform_92 : decode bMo_perform 92 = .ok (.aload_n 0, 1) := by decide +kernel
theorem dMo_perform_93 : decode bMo_perform 93 = .ok (.aload_n 0, 1) := by decide +kernel
theorem dMo_perform_94 : decode bMo_perform 94 = .ok (.iload_n 2, 1) := by decide +kernel
theorem dMo_perform_95 : decode bMo_perform 95 = .ok (.invokevirtual 136, 3) := by decide +kernel
theorem dMo_perform_98 : decode bMo_perform 98 = .ok (.invokevirtual 146, 3) := by decide +kernel
theorem dMo_perform_101 : decode bMo_perform 101 = .ok (.goto 269, 3) := by decide +kernel
theorem dMo_perform_104 : decode bMo_perform 104 = .ok (.aload_n 0, 1) := by decide +kernel
theorem dMo_perform_105 : decode bMo_perform 105 = .ok (.iconst 1, 1) := by decide +kernel
theorem dMo_perform_106 : decode bMo_perform 106 = .ok (.aload_n 0, 1) := by decide +kernel
theorem dMo_perform_107 : decode bMo_perform 107 = .ok (.iload_n 2, 1) := by decide +kernel
theorem dMo_perform_108 : decode bMo_perform 108 = .ok (.invokevirtual 136, 3) := by decide +kernel
theorem dMo_perform_111 : decode bMo_perform 111 = .ok (.isub, 1) := by decide +kernel
theorem dMo_perform_112 : decode bMo_perform 112 = .ok (.invokevirtual 146, 3) := by decide +kernel
theorem dMo_perform_115 : decode bMo_perform 115 = .ok (.goto 255, 3) := by decide +kernel
theorem dMo_perform_118 : decode bMo_perform 118 = .ok (.aload_n 0, 1) := by decide +kernel
theorem dMo_perform_119 : decode bMo_perform 119 = .ok (.getfield 71, 3) := by decide +kernel
theorem dMo_perform_122 : decode bMo_perform 122 = .ok (.aload_n 0, 1) := by decide +kernel
theorem dMo_perform_123 : decode bMo_perform 123 = .ok (.getfield 143, 3) := by decide +kernel
theorem dMo_perform_126 : decode bMo_perform 126 = .ok (.iconst 1, 1) := by decide +kernel
theorem dMo_perform_127 : decode bMo_perform 127 = .ok (.isub, 1) := by decide +kernel
theorem dMo_perform_128 : decode bMo_perform 128 = .ok (.iload_n 3, 1) := by decide +kernel
theorem dMo_perform_129 : decode bMo_perform 129 = .ok (.aload_n 0, 1) := by decide +kernel
theorem dMo_perform_130 : decode bMo_perform 130 = .ok (.iload_n 2, 1) := by decide +kernel
theorem dMo_perform_131 : decode bMo_perform 131 = .ok (.invokevirtual 136, 3) := by decide +kernel
theorem dMo_perform_134 : decode bMo_perform 134 = .ok (.iand, 1) := by decide +kernel
theorem dMo_perform_135 : decode bMo_perform 135 = .ok (.iastore, 1) := by decide +kernel
theorem dMo_perform_136 : decode bMo_perform 136 = .ok (.goto 234, 3) := by decide +kernel
theorem dMo_perform_139 : decode bMo_perform 139 = .ok (.aload_n 0, 1) := by decide +kernel
theorem dMo_perform_140 : decode bMo_perform 140 = .ok (.getfield 71, 3) := by decide +kernel
theorem dMo_perform_143 : decode bMo_perform 143 = .ok (.aload_n 0, 1) := by decide +kernel
theorem dMo_perform_144 : decode bMo_perform 144 = .ok (.getfield 143, 3) := by decide +kernel
theorem dMo_perform_147 : decode bMo_perform 147 = .ok (.iconst 1, 1) := by decide +kernel
theorem dMo_perform_148 : decode bMo_perform 148 = .ok (.isub, 1) := by decide +kernel
theorem dMo_perform_149 : decode bMo_perform 149 = .ok (.iload_n 3, 1) := by decide +kernel
theorem dMo_perform_150 : decode bMo_perform 150 = .ok (.iconst 1, 1) := by decide +kernel
theorem dMo_perform_151 : decode bMo_perform 151 = .ok (.aload_n 0, 1) := by decide +kernel
theorem dMo_perform_152 : decode bMo_perform 152 = .ok (.iload_n 2, 1) := by decide +kernel
theorem dMo_perform_153 : decode bMo_perform 153 = .ok (.invokevirtual 136, 3) := by decide +kernel
theorem dMo_perform_156 : decode bMo_perform 156 = .ok (.isub, 1) := by decide +kernel
theorem dMo_perform_157 : decode bMo_perform 157 = .ok (.iand, 1) := by decide +kernel
theorem dMo_perform_158 : decode bMo_perform 158 = .ok (.iastore, 1) := by decide +kernel
theorem dMo_perform_159 : decode bMo_perform 159 = .ok (.goto 211, 3) := by decide +kernel
theorem dMo_perform_162 : decode bMo_perform 162 = .ok (.aload_n 0, 1) := by decide +kernel
theorem dMo_perform_163 : decode bMo_perform 163 = .ok (.getfield 71, 3) := by decide +kernel
theorem dMo_perform_166 : decode bMo_perform 166 = .ok (.aload_n 0, 1) := by decide +kernel
theorem dMo_perform_167 : decode bMo_perform 167 = .ok (.getfield 143, 3) := by decide +kernel
theorem dMo_perform_170 : decode bMo_perform 170 = .ok (.iconst 1, 1) := by decide +kernel
theorem dMo_perform_171 : decode bMo_perform 171 = .ok (.isub, 1) := by decide +kernel
theorem dMo_perform_172 : decode bMo_perform 172 = .ok (.iload_n 3, 1) := by decide +kernel
theorem dMo_perform_173 : decode bMo_perform 173 = .ok (.aload_n 0, 1) := by decide +kernel
theorem dMo_perform_174 : decode bMo_perform 174 = .ok (.iload_n 2, 1) := by decide +kernel
theorem dMo_perform_175 : decode bMo_perform 175 = .ok (.invokevirtual 136, 3) := by decide +kernel
theorem dMo_perform_178 : decode bMo_perform 178 = .ok (.ior, 1) := by decide +kernel
theorem dMo_perform_179 : decode bMo_perform 179 = .ok (.iastore, 1) := by decide +kernel
theorem dMo_perform_180 : decode bMo_perform 180 = .ok (.goto 190, 3) := by decide +kernel
theorem dMo_perform_183 : decode bMo_perform 183 = .ok (.aload_n 0, 1) := by decide +kernel
theorem dMo_perform_184 : decode bMo_perform 184 = .ok (.getfield 71, 3) := by decide +kernel
theorem dMo_perform_187 : decode bMo_perform 187 = .ok (.aload_n 0, 1) := by decide +kernel
theorem dMo_perform_188 : decode bMo_perform 188 = .ok (.getfield 143, 3) := by decide +kernel
theorem dMo_perform_191 : decode bMo_perform 191 = .ok (.iconst 1, 1) := by decide +kernel
theorem dMo_perform_192 : decode bMo_perform 192 = .ok (.isub, 1) := by decide +kernel
theorem dMo_perform_193 : decode bMo_perform 193 = .ok (.iload_n 3, 1) := by decide +kernel
theorem dMo_perform_194 : decode bMo_perform 194 = .ok (.iconst 1, 1) := by decide +kernel
theorem dMo_perform_195 : decode bMo_perform 195 = .ok (.aload_n 0, 1) := by decide +kernel
theorem dMo_perform_196 : decode bMo_perform 196 = .ok (.iload_n 2, 1) := by decide +kernel
theorem dMo_perform_197 : decode bMo_perform 197 = .ok (.invokevirtual 136, 3) := by decide +kernel
theorem dMo_perform_200 : decode bMo_perform 200 = .ok (.isub, 1) := by decide +kernel
theorem dMo_perform_201 : decode bMo_perform 201 = .ok (.ior, 1) := by decide +kernel
theorem dMo_perform_202 : decode bMo_perform 202 = .ok (.iastore, 1) := by decide +kernel
theorem dMo_perform_203 : decode bMo_perform 203 = .ok (.goto 167, 3) := by decide +kernel
theorem dMo_perform_206 : decode bMo_perform 206 = .ok (.aload_n 0, 1) := by decide +kernel
theorem dMo_perform_207 : decode bMo_perform 207 = .ok (.dup, 1) := by decide +kernel
theorem dMo_perform_208 : decode bMo_perform 208 = .ok (.getfield 143, 3) := by decide +kernel
theorem dMo_perform_211 : decode bMo_perform 211 = .ok (.iconst 1, 1) := by decide +kernel
theorem dMo_perform_212 : decode bMo_perform 212 = .ok (.isub, 1) := by decide +kernel
theorem dMo_perform_213 : decode bMo_perform 213 = .ok (.putfield 143, 3) := by decide +kernel
theorem dMo_perform_216 : decode bMo_perform 216 = .ok (.aload_n 0, 1) := by decide +kernel
theorem dMo_perform_217 : decode bMo_perform 217 = .ok (.getfield 71, 3) := by decide +kernel
theorem dMo_perform_220 : decode bMo_perform 220 = .ok (.aload_n 0, 1) := by decide +kernel
theorem dMo_perform_221 : decode bMo_perform 221 = .ok (.getfield 143, 3) := by decide +kernel
theorem dMo_perform_224 : decode bMo_perform 224 = .ok (.iconst 1, 1) := by decide +kernel
theorem dMo_perform_225 : decode bMo_perform 225 = .ok (.isub, 1) := by decide +kernel
theorem dMo_perform_226 : decode bMo_perform 226 = .ok (.iload_n 1, 1) := by decide +kernel
theorem dMo_perform_227 : decode bMo_perform 227 = .ok (.bipush 6, 2) := by decide +kernel
theorem dMo_perform_229 : decode bMo_perform 229 = .ok (.if_icmp .ne 19, 3) := by decide +kernel
theorem dMo_perform_232 : decode bMo_perform 232 = .ok (.aload_n 0, 1) := by decide +kernel
theorem dMo_perform_233 : decode bMo_perform 233 = .ok (.getfield 71, 3) := by decide +kernel
theorem dMo_perform_236 : decode bMo_perform 236 = .ok (.aload_n 0, 1) := by decide +kernel
theorem dMo_perform_237 : decode bMo_perform 237 = .ok (.getfield 143, 3) := by decide +kernel
theorem dMo_perform_240 : decode bMo_perform 240 = .ok (.iconst 1, 1) := by decide +kernel
theorem dMo_perform_241 : decode bMo_perform 241 = .ok (.isub, 1) := by decide +kernel
theorem dMo_perform_242 : decode bMo_perform 242 = .ok (.iaload, 1) := by decide +kernel
theorem dMo_perform_243 : decode bMo_perform 243 = .ok (.iload_n 3, 1) := by decide +kernel
theorem dMo_perform_244 : decode bMo_perform 244 = .ok (.iand, 1) := by decide +kernel
theorem dMo_perform_245 : decode bMo_perform 245 = .ok (.goto 16, 3) := by decide +kernel
theorem dMo_perform_248 : decode bMo_perform 248 = .ok (.aload_n 0, 1) := by decide +kernel
theorem dMo_perform_249 : decode bMo_perform 249 = .ok (.getfield 71, 3) := by decide +kernel
theorem dMo_perform_252 : decode bMo_perform 252 = .ok (.aload_n 0, 1) := by decide +kernel
theorem dMo_perform_253 : decode bMo_perform 253 = .ok (.getfield 143, 3) := by decide +kernel
theorem dMo_perform_256 : decode bMo_perform 256 = .ok (.iconst 1, 1) := by decide +kernel
theorem dMo_perform_257 : decode bMo_perform 257 = .ok (.isub, 1) := by decide +kernel
theorem dMo_perform_258 : decode bMo_perform 258 = .ok (.iaload, 1) := by decide +kernel
theorem dMo_perform_259 : decode bMo_perform 259 = .ok (.iload_n 3, 1) := by decide +kernel
theorem dMo_perform_260 : decode bMo_perform 260 = .ok (.ior, 1) := by decide +kernel
theorem dMo_perform_261 : decode bMo_perform 261 = .ok (.iastore, 1) := by decide +kernel
theorem dMo_perform_262 : decode bMo_perform 262 = .ok (.goto 108, 3) := by decide +kernel
theorem dMo_perform_265 : decode bMo_perform 265 = .ok (.aload_n 0, 1) := by decide +kernel
theorem dMo_perform_266 : decode bMo_perform 266 = .ok (.aload_n 0, 1) := by decide +kernel
theorem dMo_perform_267 : decode bMo_perform 267 = .ok (.getfield 22, 3) := by decide +kernel
theorem dMo_perform_270 : decode bMo_perform 270 = .ok (.iload_n 2, 1) := by decide +kernel
theorem dMo_perform_271 : decode bMo_perform 271 = .ok (.bipush 8, 2) := by decide +kernel
theorem dMo_perform_273 : decode bMo_perform 273 = .ok (.idiv, 1) := by decide +kernel
theorem dMo_perform_274 : decode bMo_perform 274 = .ok (.laload, 1) := by decide +kernel
theorem dMo_perform_275 : decode bMo_perform 275 = .ok (.aload_n 0, 1) := by decide +kernel
theorem dMo_perform_276 : decode bMo_perform 276 = .ok (.getfield 22, 3) := by decide +kernel
theorem dMo_perform_279 : decode bMo_perform 279 = .ok (.iload_n 2, 1) := by decide +kernel
theorem dMo_perform_280 : decode bMo_perform 280 = .ok (.bipush 8, 2) := by decide +kernel
theorem dMo_perform_282 : decode bMo_perform 282 = .ok (.irem, 1) := by decide +kernel
theorem dMo_perform_283 : decode bMo_perform 283 = .ok (.laload, 1) := by decide +kernel
theorem dMo_perform_284 : decode bMo_perform 284 = .ok (.lcmp, 1) := by decide +kernel
theorem dMo_perform_285 : decode bMo_perform 285 = .ok (.ifCond .le 7, 3) := by decide +kernel
theorem dMo_perform_288 : decode bMo_perform 288 = .ok (.iconst 1, 1) := by decide +kernel
theorem dMo_perform_289 : decode bMo_perform 289 = .ok (.goto 4, 3) := by decide +kernel
theorem dMo_perform_292 : decode bMo_perform 292 = .ok (.iconst 0, 1) := by decide +kernel
theorem dMo_perform_293 : decode bMo_perform 293 = .ok (.invokevirtual 146, 3) := by decide +kernel
theorem dMo_perform_296 : decode bMo_perform 296 = .ok (.goto 74, 3) := by decide +kernel
theorem dMo_perform_299 : decode bMo_perform 299 = .ok (.aload_n 0, 1) := by decide +kernel
theorem dMo_perform_300 : decode bMo_perform 300 = .ok (.iload_n 2, 1) := by decide +kernel
theorem dMo_perform_301 : decode bMo_perform 301 = .ok (.iload_n 3, 1) := by decide +kernel
theorem dMo_perform_302 : decode bMo_perform 302 = .ok (.invokevirtual 149, 3) := by decide +kernel
theorem dMo_perform_305 : decode bMo_perform 305 = .ok (.aload_n 0, 1) := by decide +kernel
theorem dMo_perform_306 : decode bMo_perform 306 = .ok (.getfield 71, 3) := by decide +kernel
theorem dMo_perform_309 : decode bMo_perform 309 = .ok (.aload_n 0, 1) := by decide +kernel
theorem dMo_perform_310 : decode bMo_perform 310 = .ok (.getfield 143, 3) := by decide +kernel
theorem dMo_perform_313 : decode bMo_perform 313 = .ok (.iconst 1, 1) := by decide +kernel
theorem dMo_perform_314 : decode bMo_perform 314 = .ok (.isub, 1) := by decide +kernel
theorem dMo_perform_315 : decode bMo_perform 315 = .ok (.aload_n 0, 1) := by decide +kernel
theorem dMo_perform_316 : decode bMo_perform 316 = .ok (.getfield 41, 3) := by decide +kernel
theorem dMo_perform_319 : decode bMo_perform 319 = .ok (.iload_n 2, 1) := by decide +kernel
theorem dMo_perform_320 : decode bMo_perform 320 = .ok (.iaload, 1) := by decide +kernel
theorem dMo_perform_321 : decode bMo_perform 321 = .ok (.iastore, 1) := by decide +kernel
theorem dMo_perform_322 : decode bMo_perform 322 = .ok (.goto 48, 3) := by decide +kernel
theorem dMo_perform_325 : decode bMo_perform 325 = .ok (.aload_n 0, 1) := by decide +kernel
theorem dMo_perform_326 : decode bMo_perform 326 = .ok (.getfield 7, 3) := by decide +kernel
theorem dMo_perform_329 : decode bMo_perform 329 = .ok (.iload_n 2, 1) := by decide +kernel
theorem dMo_perform_330 : decode bMo_perform 330 = .ok (.iload_n 3, 1) := by decide +kernel
theorem dMo_perform_331 : decode bMo_perform 331 = .ok (.iastore, 1) := by decide +kernel
theorem dMo_perform_332 : decode bMo_perform 332 = .ok (.goto 38, 3) := by decide +kernel
theorem dMo_perform_335 : decode bMo_perform 335 = .ok (.iload_n 3, 1) := by decide +kernel
theorem dMo_perform_336 : decode bMo_perform 336 = .ok (.iconst 1, 1) := by decide +kernel
theorem dMo_perform_337 : decode bMo_perform 337 = .ok (.if_icmp .ne 33, 3) := by decide +kernel
theorem dMo_perform_340 : decode bMo_perform 340 = .ok (.aload_n 0, 1) := by decide +kernel
theorem dMo_perform_341 : decode bMo_perform 341 = .ok (.getfield 7, 3) := by decide +kernel
theorem dMo_perform_344 : decode bMo_perform 344 = .ok (.iload_n 2, 1) := by decide +kernel
theorem dMo_perform_345 : decode bMo_perform 345 = .ok (.iconst 1, 1) := by decide +kernel
theorem dMo_perform_346 : decode bMo_perform 346 = .ok (.iastore, 1) := by decide +kernel
theorem dMo_perform_347 : decode bMo_perform 347 = .ok (.goto 23, 3) := by decide +kernel
theorem dMo_perform_350 : decode bMo_perform 350 = .ok (.iload_n 3, 1) := by decide +kernel
theorem dMo_perform_351 : decode bMo_perform 351 = .ok (.iconst 1, 1) := by decide +kernel
theorem dMo_perform_352 : decode bMo_perform 352 = .ok (.if_icmp .ne 18, 3) := by decide +kernel
theorem dMo_perform_355 : decode bMo_perform 355 = .ok (.aload_n 0, 1) := by decide +kernel
theorem dMo_perform_356 : decode bMo_perform 356 = .ok (.getfield 7, 3) := by decide +kernel
theorem dMo_perform_359 : decode bMo_perform 359 = .ok (.iload_n 2, 1) := by decide +kernel
theorem dMo_perform_360 : decode bMo_perform 360 = .ok (.iconst 0, 1) := by decide +kernel
theorem dMo_perform_361 : decode bMo_perform 361 = .ok (.iastore, 1) := by decide +kernel
theorem dMo_perform_362 : decode bMo_perform 362 = .ok (.goto 8, 3) := by decide +kernel
theorem dMo_perform_365 : decode bMo_perform 365 = .ok (.aload_n 0, 1) := by decide +kernel
theorem dMo_perform_366 : decode bMo_perform 366 = .ok (.iconst 2, 1) := by decide +kernel
theorem dMo_perform_367 : decode bMo_perform 367 = .ok (.putfield 133, 3) := by decide +kernel
theorem dMo_perform_370 : decode bMo_perform 370 = .ok (.return_, 1) := by decide +kernel
theorem dMo_rung_0 : decode bMo_rung 0 = .ok (.aload_n 0, 1) := by decide +kernel
theorem dMo_rung_1 : decode bMo_rung 1 = .ok (.iconst 0, 1) := by decide +kernel
theorem dMo_rung_2 : decode bMo_rung 2 = .ok (.putfield 143, 3) := by decide +kernel
theorem dMo_rung_5 : decode bMo_rung 5 = .ok (.bipush 10, 2) := by decide +kernel
theorem dMo_rung_7 : decode bMo_rung 7 = .ok (.iload_n 1, 1) := by decide +kernel
theorem dMo_rung_8 : decode bMo_rung 8 = .ok (.imul, 1) := by decide +kernel
theorem dMo_rung_9 : decode bMo_rung 9 = .ok (.istore_n 2, 1) := by decide +kernel
theorem dMo_rung_10 : decode bMo_rung 10 = .ok (.iload_n 2, 1) := by decide +kernel
theorem dMo_rung_11 : decode bMo_rung 11 = .ok (.bipush 10, 2) := by decide +kernel
theorem dMo_rung_13 : decode bMo_rung 13 = .ok (.iload_n 1, 1) := by decide +kernel
theorem dMo_rung_14 : decode bMo_rung 14 = .ok (.imul, 1) := by decide +kernel
theorem dMo_rung_15 : decode bMo_rung 15 = .ok (.aload_n 0, 1) := by decide +kernel
theorem dMo_rung_16 : decode bMo_rung 16 = .ok (.getfield 68, 3) := by decide +kernel
theorem dMo_rung_19 : decode bMo_rung 19 = .ok (.iload_n 1, 1) := by decide +kernel
theorem dMo_rung_20 : decode bMo_rung 20 = .ok (.iaload, 1) := by decide +kernel
theorem dMo_rung_21 : decode bMo_rung 21 = .ok (.iadd, 1) := by decide +kernel
theorem dMo_rung_22 : decode bMo_rung 22 = .ok (.if_icmp .ge 71, 3) := by decide +kernel
theorem dMo_rung_25 : decode bMo_rung 25 = .ok (.aload_n 0, 1) := by decide +kernel
theorem dMo_rung_26 : decode bMo_rung 26 = .ok (.getfield 62, 3) := by decide +kernel
theorem dMo_rung_29 : decode bMo_rung 29 = .ok (.iload_n 2, 1) := by decide +kernel
theorem dMo_rung_30 : decode bMo_rung 30 = .ok (.iaload, 1) := by decide +kernel
theorem dMo_rung_31 : decode bMo_rung 31 = .ok (.bipush 13, 2) := by decide +kernel
theorem dMo_rung_33 : decode bMo_rung 33 = .ok (.if_icmp .eq 22, 3) := by decide +kernel
theorem dMo_rung_36 : decode bMo_rung 36 = .ok (.aload_n 0, 1) := by decide +kernel
theorem dMo_rung_37 : decode bMo_rung 37 = .ok (.aload_n 0, 1) := by decide +kernel
theorem dMo_rung_38 : decode bMo_rung 38 = .ok (.getfield 62, 3) := by decide +kernel
theorem dMo_rung_41 : decode bMo_rung 41 = .ok (.iload_n 2, 1) := by decide +kernel
theorem dMo_rung_42 : decode bMo_rung 42 = .ok (.iaload, 1) := by decide +kernel
theorem dMo_rung_43 : decode bMo_rung 43 = .ok (.aload_n 0, 1) := by decide +kernel
theorem dMo_rung_44 : decode bMo_rung 44 = .ok (.getfield 65, 3) := by decide +kernel
theorem dMo_rung_47 : decode bMo_rung 47 = .ok (.iload_n 2, 1) := by decide +kernel
theorem dMo_rung_48 : decode bMo_rung 48 = .ok (.iaload, 1) := by decide +kernel
theorem dMo_rung_49 : decode bMo_rung 49 = .ok (.invokevirtual 153, 3) := by decide +kernel
theorem dMo_rung_52 : decode bMo_rung 52 = .ok (.goto 25, 3) := by decide +kernel
theorem dMo_rung_55 : decode bMo_rung 55 = .ok (.aload_n 0, 1) := by decide +kernel
theorem dMo_rung_56 : decode bMo_rung 56 = .ok (.getfield 71, 3) := by decide +kernel
theorem dMo_rung_59 : decode bMo_rung 59 = .ok (.aload_n 0, 1) := by decide +kernel
theorem dMo_rung_60 : decode bMo_rung 60 = .ok (.getfield 143, 3) := by decide +kernel
theorem dMo_rung_63 : decode bMo_rung 63 = .ok (.iconst 1, 1) := by decide +kernel
theorem dMo_rung_64 : decode bMo_rung 64 = .ok (.isub, 1) := by decide +kernel
theorem dMo_rung_65 : decode bMo_rung 65 = .ok (.iaload, 1) := by decide +kernel
theorem dMo_rung_66 : decode bMo_rung 66 = .ok (.iconst 1, 1) := by decide +kernel
theorem dMo_rung_67 : decode bMo_rung 67 = .ok (.if_icmp .ne 10, 3) := by decide +kernel
theorem dMo_rung_70 : decode bMo_rung 70 = .ok (.aload_n 0, 1) := by decide +kernel
theorem dMo_rung_71 : decode bMo_rung 71 = .ok (.getfield 65, 3) := by decide +kernel
theorem dMo_rung_74 : decode bMo_rung 74 = .ok (.iload_n 2, 1) := by decide +kernel
theorem dMo_rung_75 : decode bMo_rung 75 = .ok (.iaload, 1) := by decide +kernel
theorem dMo_rung_76 : decode bMo_rung 76 = .ok (.ireturn, 1) := by decide +kernel
theorem dMo_rung_77 : decode bMo_rung 77 = .ok (.aload_n 0, 1) := by decide +kernel
theorem dMo_rung_78 : decode bMo_rung 78 = .ok (.getfield 133, 3) := by decide +kernel
theorem dMo_rung_81 : decode bMo_rung 81 = .ok (.ifCond .eq 6, 3) := by decide +kernel
theorem dMo_rung_84 : decode bMo_rung 84 = .ok (.bipush 12, 2) := by decide +kernel
theorem dMo_rung_86 : decode bMo_rung 86 = .ok (.ireturn, 1) := by decide +kernel
theorem dMo_rung_87 : decode bMo_rung 87 = .ok (.iinc 2 1, 3) := by decide +kernel
theorem dMo_rung_90 : decode bMo_rung 90 = .ok (.goto (-80), 3) := by decide +kernel
theorem dMo_rung_93 : decode bMo_rung 93 = .ok (.iload_n 1, 1) := by decide +kernel
theorem dMo_rung_94 : decode bMo_rung 94 = .ok (.iconst 1, 1) := by decide +kernel
theorem dMo_rung_95 : decode bMo_rung 95 = .ok (.iadd, 1) := by decide +kernel
theorem dMo_rung_96 : decode bMo_rung 96 = .ok (.ireturn, 1) := by decide +kernel
theorem dMo_scanOnce_0 : decode bMo_scanOnce 0 = .ok (.iconst 0, 1) := by decide +kernel
theorem dMo_scanOnce_1 : decode bMo_scanOnce 1 = .ok (.istore_n 1, 1) := by decide +kernel
theorem dMo_scanOnce_2 : decode bMo_scanOnce 2 = .ok (.iconst 0, 1) := by decide +kernel
theorem dMo_scanOnce_3 : decode bMo_scanOnce 3 = .ok (.istore_n 2, 1) := by decide +kernel
theorem dMo_scanOnce_4 : decode bMo_scanOnce 4 = .ok (.aload_n 0, 1) := by decide +kernel
theorem dMo_scanOnce_5 : decode bMo_scanOnce 5 = .ok (.iconst 0, 1) := by decide +kernel
theorem dMo_scanOnce_6 : decode bMo_scanOnce 6 = .ok (.putfield 133, 3) := by decide +kernel
theorem dMo_scanOnce_9 : decode bMo_scanOnce 9 = .ok (.iconst 0, 1) := by decide +kernel
theorem dMo_scanOnce_10 : decode bMo_scanOnce 10 = .ok (.istore_n 3, 1) := by decide +kernel
theorem dMo_scanOnce_11 : decode bMo_scanOnce 11 = .ok (.iload_n 3, 1) := by decide +kernel
theorem dMo_scanOnce_12 : decode bMo_scanOnce 12 = .ok (.bipush 8, 2) := by decide +kernel
theorem dMo_scanOnce_14 : decode bMo_scanOnce 14 = .ok (.if_icmp .ge 21, 3) := by decide +kernel
theorem dMo_scanOnce_17 : decode bMo_scanOnce 17 = .ok (.aload_n 0, 1) := by decide +kernel
theorem dMo_scanOnce_18 : decode bMo_scanOnce 18 = .ok (.getfield 7, 3) := by decide +kernel
theorem dMo_scanOnce_21 : decode bMo_scanOnce 21 = .ok (.iload_n 3, 1) := by decide +kernel
theorem dMo_scanOnce_22 : decode bMo_scanOnce 22 = .ok (.aload_n 0, 1) := by decide +kernel
theorem dMo_scanOnce_23 : decode bMo_scanOnce 23 = .ok (.getfield 16, 3) := by decide +kernel
theorem dMo_scanOnce_26 : decode bMo_scanOnce 26 = .ok (.iload_n 3, 1) := by decide +kernel
theorem dMo_scanOnce_27 : decode bMo_scanOnce 27 = .ok (.iaload, 1) := by decide +kernel
theorem dMo_scanOnce_28 : decode bMo_scanOnce 28 = .ok (.iastore, 1) := by decide +kernel
theorem dMo_scanOnce_29 : decode bMo_scanOnce 29 = .ok (.iinc 3 1, 3) := by decide +kernel
theorem dMo_scanOnce_32 : decode bMo_scanOnce 32 = .ok (.goto (-21), 3) := by decide +kernel
theorem dMo_scanOnce_35 : decode bMo_scanOnce 35 = .ok (.iload_n 2, 1) := by decide +kernel
theorem dMo_scanOnce_36 : decode bMo_scanOnce 36 = .ok (.bipush 12, 2) := by decide +kernel
theorem dMo_scanOnce_38 : decode bMo_scanOnce 38 = .ok (.if_icmp .ge 36, 3) := by decide +kernel
theorem dMo_scanOnce_41 : decode bMo_scanOnce 41 = .ok (.aload_n 0, 1) := by decide +kernel
theorem dMo_scanOnce_42 : decode bMo_scanOnce 42 = .ok (.getfield 133, 3) := by decide +kernel
theorem dMo_scanOnce_45 : decode bMo_scanOnce 45 = .ok (.ifCond .ne 29, 3) := by decide +kernel
theorem dMo_scanOnce_48 : decode bMo_scanOnce 48 = .ok (.iload_n 1, 1) := by decide +kernel
theorem dMo_scanOnce_49 : decode bMo_scanOnce 49 = .ok (.bipush 30, 2) := by decide +kernel
theorem dMo_scanOnce_51 : decode bMo_scanOnce 51 = .ok (.if_icmp .ne 11, 3) := by decide +kernel
theorem dMo_scanOnce_54 : decode bMo_scanOnce 54 = .ok (.aload_n 0, 1) := by decide +kernel
theorem dMo_scanOnce_55 : decode bMo_scanOnce 55 = .ok (.iconst 2, 1) := by decide +kernel
theorem dMo_scanOnce_56 : decode bMo_scanOnce 56 = .ok (.putfield 133, 3) := by decide +kernel
theorem dMo_scanOnce_59 : decode bMo_scanOnce 59 = .ok (.goto (-24), 3) := by decide +kernel
theorem dMo_scanOnce_62 : decode bMo_scanOnce 62 = .ok (.iinc 1 1, 3) := by decide +kernel
theorem dMo_scanOnce_65 : decode bMo_scanOnce 65 = .ok (.aload_n 0, 1) := by decide +kernel
theorem dMo_scanOnce_66 : decode bMo_scanOnce 66 = .ok (.iload_n 2, 1) := by decide +kernel
theorem dMo_scanOnce_67 : decode bMo_scanOnce 67 = .ok (.invokevirtual 156, 3) := by decide +kernel
theorem dMo_scanOnce_70 : decode bMo_scanOnce 70 = .ok (.istore_n 2, 1) := by decide +kernel
theorem dMo_scanOnce_71 : decode bMo_scanOnce 71 = .ok (.goto (-36), 3) := by decide +kernel
theorem dMo_scanOnce_74 : decode bMo_scanOnce 74 = .ok (.aload_n 0, 1) := by decide +kernel
theorem dMo_scanOnce_75 : decode bMo_scanOnce 75 = .ok (.dup, 1) := by decide +kernel
theorem dMo_scanOnce_76 : decode bMo_scanOnce 76 = .ok (.getfield 159, 3) := by decide +kernel
theorem dMo_scanOnce_79 : decode bMo_scanOnce 79 = .ok (.iload_n 1, 1) := by decide +kernel
theorem dMo_scanOnce_80 : decode bMo_scanOnce 80 = .ok (.iadd, 1) := by decide +kernel
theorem dMo_scanOnce_81 : decode bMo_scanOnce 81 = .ok (.putfield 159, 3) := by decide +kernel
theorem dMo_scanOnce_84 : decode bMo_scanOnce 84 = .ok (.iconst 0, 1) := by decide +kernel
theorem dMo_scanOnce_85 : decode bMo_scanOnce 85 = .ok (.istore_n 3, 1) := by decide +kernel
theorem dMo_scanOnce_86 : decode bMo_scanOnce 86 = .ok (.iload_n 3, 1) := by decide +kernel
theorem dMo_scanOnce_87 : decode bMo_scanOnce 87 = .ok (.bipush 8, 2) := by decide +kernel
theorem dMo_scanOnce_89 : decode bMo_scanOnce 89 = .ok (.if_icmp .ge 34, 3) := by decide +kernel
theorem dMo_scanOnce_92 : decode bMo_scanOnce 92 = .ok (.aload_n 0, 1) := by decide +kernel
theorem dMo_scanOnce_93 : decode bMo_scanOnce 93 = .ok (.getfield 19, 3) := by decide +kernel
theorem dMo_scanOnce_96 : decode bMo_scanOnce 96 = .ok (.iload_n 3, 1) := by decide +kernel
theorem dMo_scanOnce_97 : decode bMo_scanOnce 97 = .ok (.aload_n 0, 1) := by decide +kernel
theorem dMo_scanOnce_98 : decode bMo_scanOnce 98 = .ok (.getfield 133, 3) := by decide +kernel
theorem dMo_scanOnce_101 : decode bMo_scanOnce 101 = .ok (.ifCond .ne 14, 3) := by decide +kernel
theorem dMo_scanOnce_104 : decode bMo_scanOnce 104 = .ok (.aload_n 0, 1) := by decide +kernel
theorem dMo_scanOnce_105 : decode bMo_scanOnce 105 = .ok (.bipush 8, 2) := by decide +kernel
theorem dMo_scanOnce_107 : decode bMo_scanOnce 107 = .ok (.iload_n 3, 1) := by decide +kernel
theorem dMo_scanOnce_108 : decode bMo_scanOnce 108 = .ok (.iadd, 1) := by decide +kernel
theorem dMo_scanOnce_109 : decode bMo_scanOnce 109 = .ok (.invokevirtual 136, 3) := by decide +kernel
theorem dMo_scanOnce_112 : decode bMo_scanOnce 112 = .ok (.goto 4, 3) := by decide +kernel
theorem dMo_scanOnce_115 : decode bMo_scanOnce 115 = .ok (.iconst 0, 1) := by decide +kernel
theorem dMo_scanOnce_116 : decode bMo_scanOnce 116 = .ok (.iastore, 1) := by decide +kernel
theorem dMo_scanOnce_117 : decode bMo_scanOnce 117 = .ok (.iinc 3 1, 3) := by decide +kernel
theorem dMo_scanOnce_120 : decode bMo_scanOnce 120 = .ok (.goto (-34), 3) := by decide +kernel
theorem dMo_scanOnce_123 : decode bMo_scanOnce 123 = .ok (.aload_n 0, 1) := by decide +kernel
theorem dMo_scanOnce_124 : decode bMo_scanOnce 124 = .ok (.getfield 133, 3) := by decide +kernel
theorem dMo_scanOnce_127 : decode bMo_scanOnce 127 = .ok (.ifCond .ne 16, 3) := by decide +kernel
theorem dMo_scanOnce_130 : decode bMo_scanOnce 130 = .ok (.aload_n 0, 1) := by decide +kernel
theorem dMo_scanOnce_131 : decode bMo_scanOnce 131 = .ok (.dup, 1) := by decide +kernel
theorem dMo_scanOnce_132 : decode bMo_scanOnce 132 = .ok (.getfield 162, 3) := by decide +kernel
theorem dMo_scanOnce_135 : decode bMo_scanOnce 135 = .ok (.iconst 1, 1) := by decide +kernel
theorem dMo_scanOnce_136 : decode bMo_scanOnce 136 = .ok (.iadd, 1) := by decide +kernel
theorem dMo_scanOnce_137 : decode bMo_scanOnce 137 = .ok (.putfield 162, 3) := by decide +kernel
theorem dMo_scanOnce_140 : decode bMo_scanOnce 140 = .ok (.goto 18, 3) := by decide +kernel
theorem dMo_scanOnce_143 : decode bMo_scanOnce 143 = .ok (.aload_n 0, 1) := by decide +kernel
theorem dMo_scanOnce_144 : decode bMo_scanOnce 144 = .ok (.dup, 1) := by decide +kernel
theorem dMo_scanOnce_145 : decode bMo_scanOnce 145 = .ok (.getfield 165, 3) := by decide +kernel
theorem dMo_scanOnce_148 : decode bMo_scanOnce 148 = .ok (.iconst 1, 1) := by decide +kernel
theorem dMo_scanOnce_149 : decode bMo_scanOnce 149 = .ok (.iadd, 1) := by decide +kernel
theorem dMo_scanOnce_150 : decode bMo_scanOnce 150 = .ok (.putfield 165, 3) := by decide +kernel
theorem dMo_scanOnce_153 : decode bMo_scanOnce 153 = .ok (.aload_n 0, 1) := by decide +kernel
theorem dMo_scanOnce_154 : decode bMo_scanOnce 154 = .ok (.iconst 1, 1) := by decide +kernel
theorem dMo_scanOnce_155 : decode bMo_scanOnce 155 = .ok (.putfield 168, 3) := by decide +kernel
theorem dMo_scanOnce_158 : decode bMo_scanOnce 158 = .ok (.return_, 1) := by decide +kernel
theorem dMo_scan_0 : decode bMo_scan 0 = .ok (.aload_n 0, 1) := by decide +kernel
theorem dMo_scan_1 : decode bMo_scan 1 = .ok (.iconst 0, 1) := by decide +kernel
theorem dMo_scan_2 : decode bMo_scan 2 = .ok (.putfield 74, 3) := by decide +kernel
theorem dMo_scan_5 : decode bMo_scan 5 = .ok (.iload_n 1, 1) := by decide +kernel
theorem dMo_scan_6 : decode bMo_scan 6 = .ok (.iconst 1, 1) := by decide +kernel
theorem dMo_scan_7 : decode bMo_scan 7 = .ok (.bipush 20, 2) := by decide +kernel
theorem dMo_scan_9 : decode bMo_scan 9 = .ok (.invokestatic 88, 3) := by decide +kernel
theorem dMo_scan_12 : decode bMo_scan 12 = .ok (.ifCond .ne 9, 3) := by decide +kernel
theorem dMo_scan_15 : decode bMo_scan 15 = .ok (.aload_n 0, 1) := by decide +kernel
theorem dMo_scan_16 : decode bMo_scan 16 = .ok (.iconst 1, 1) := by decide +kernel
theorem dMo_scan_17 : decode bMo_scan 17 = .ok (.invokevirtual 92, 3) := by decide +kernel
theorem dMo_scan_20 : decode bMo_scan 20 = .ok (.ireturn, 1) := by decide +kernel
theorem dMo_scan_21 : decode bMo_scan 21 = .ok (.aload_n 0, 1) := by decide +kernel
theorem dMo_scan_22 : decode bMo_scan 22 = .ok (.getfield 168, 3) := by decide +kernel
theorem dMo_scan_25 : decode bMo_scan 25 = .ok (.ifCond .eq 9, 3) := by decide +kernel
theorem dMo_scan_28 : decode bMo_scan 28 = .ok (.aload_n 0, 1) := by decide +kernel
theorem dMo_scan_29 : decode bMo_scan 29 = .ok (.iconst 2, 1) := by decide +kernel
theorem dMo_scan_30 : decode bMo_scan 30 = .ok (.invokevirtual 92, 3) := by decide +kernel
theorem dMo_scan_33 : decode bMo_scan 33 = .ok (.ireturn, 1) := by decide +kernel
theorem dMo_scan_34 : decode bMo_scan 34 = .ok (.aload_n 0, 1) := by decide +kernel
theorem dMo_scan_35 : decode bMo_scan 35 = .ok (.iconst 0, 1) := by decide +kernel
theorem dMo_scan_36 : decode bMo_scan 36 = .ok (.putfield 159, 3) := by decide +kernel
theorem dMo_scan_39 : decode bMo_scan 39 = .ok (.iconst 0, 1) := by decide +kernel
theorem dMo_scan_40 : decode bMo_scan 40 = .ok (.istore_n 2, 1) := by decide +kernel
theorem dMo_scan_41 : decode bMo_scan 41 = .ok (.iload_n 2, 1) := by decide +kernel
theorem dMo_scan_42 : decode bMo_scan 42 = .ok (.iload_n 1, 1) := by decide +kernel
theorem dMo_scan_43 : decode bMo_scan 43 = .ok (.if_icmp .ge 20, 3) := by decide +kernel
theorem dMo_scan_46 : decode bMo_scan 46 = .ok (.aload_n 0, 1) := by decide +kernel
theorem dMo_scan_47 : decode bMo_scan 47 = .ok (.getfield 168, 3) := by decide +kernel
theorem dMo_scan_50 : decode bMo_scan 50 = .ok (.ifCond .ne 13, 3) := by decide +kernel
theorem dMo_scan_53 : decode bMo_scan 53 = .ok (.aload_n 0, 1) := by decide +kernel
theorem dMo_scan_54 : decode bMo_scan 54 = .ok (.invokevirtual 172, 3) := by decide +kernel
theorem dMo_scan_57 : decode bMo_scan 57 = .ok (.iinc 2 1, 3) := by decide +kernel
theorem dMo_scan_60 : decode bMo_scan 60 = .ok (.goto (-19), 3) := by decide +kernel
theorem dMo_scan_63 : decode bMo_scan 63 = .ok (.aload_n 0, 1) := by decide +kernel
theorem dMo_scan_64 : decode bMo_scan 64 = .ok (.getfield 168, 3) := by decide +kernel
theorem dMo_scan_67 : decode bMo_scan 67 = .ok (.ifCond .eq 14, 3) := by decide +kernel
theorem dMo_scan_70 : decode bMo_scan 70 = .ok (.aload_n 0, 1) := by decide +kernel
theorem dMo_scan_71 : decode bMo_scan 71 = .ok (.aload_n 0, 1) := by decide +kernel
theorem dMo_scan_72 : decode bMo_scan 72 = .ok (.getfield 133, 3) := by decide +kernel
theorem dMo_scan_75 : decode bMo_scan 75 = .ok (.invokevirtual 92, 3) := by decide +kernel
theorem dMo_scan_78 : decode bMo_scan 78 = .ok (.goto 7, 3) := by decide +kernel
theorem dMo_scan_81 : decode bMo_scan 81 = .ok (.aload_n 0, 1) := by decide +kernel
theorem dMo_scan_82 : decode bMo_scan 82 = .ok (.getfield 159, 3) := by decide +kernel
theorem dMo_scan_85 : decode bMo_scan 85 = .ok (.ireturn, 1) := by decide +kernel
theorem dMo_restart_0 : decode bMo_restart 0 = .ok (.aload_n 0, 1) := by decide +kernel
theorem dMo_restart_1 : decode bMo_restart 1 = .ok (.iconst 0, 1) := by decide +kernel
theorem dMo_restart_2 : decode bMo_restart 2 = .ok (.putfield 74, 3) := by decide +kernel
theorem dMo_restart_5 : decode bMo_restart 5 = .ok (.aload_n 0, 1) := by decide +kernel
theorem dMo_restart_6 : decode bMo_restart 6 = .ok (.getfield 168, 3) := by decide +kernel
theorem dMo_restart_9 : decode bMo_restart 9 = .ok (.istore_n 1, 1) := by decide +kernel
theorem dMo_restart_10 : decode bMo_restart 10 = .ok (.aload_n 0, 1) := by decide +kernel
theorem dMo_restart_11 : decode bMo_restart 11 = .ok (.iconst 0, 1) := by decide +kernel
theorem dMo_restart_12 : decode bMo_restart 12 = .ok (.putfield 168, 3) := by decide +kernel
theorem dMo_restart_15 : decode bMo_restart 15 = .ok (.iload_n 1, 1) := by decide +kernel
theorem dMo_restart_16 : decode bMo_restart 16 = .ok (.ifCond .eq 7, 3) := by decide +kernel
theorem dMo_restart_19 : decode bMo_restart 19 = .ok (.iconst 1, 1) := by decide +kernel
theorem dMo_restart_20 : decode bMo_restart 20 = .ok (.goto 4, 3) := by decide +kernel
theorem dMo_restart_23 : decode bMo_restart 23 = .ok (.iconst 0, 1) := by decide +kernel
theorem dMo_restart_24 : decode bMo_restart 24 = .ok (.ireturn, 1) := by decide +kernel
theorem dMo_fail_0 : decode bMo_fail 0 = .ok (.aload_n 0, 1) := by decide +kernel
theorem dMo_fail_1 : decode bMo_fail 1 = .ok (.iconst 0, 1) := by decide +kernel
theorem dMo_fail_2 : decode bMo_fail 2 = .ok (.putfield 74, 3) := by decide +kernel
theorem dMo_fail_5 : decode bMo_fail 5 = .ok (.iconst 0, 1) := by decide +kernel
theorem dMo_fail_6 : decode bMo_fail 6 = .ok (.istore_n 1, 1) := by decide +kernel
theorem dMo_fail_7 : decode bMo_fail 7 = .ok (.iconst 0, 1) := by decide +kernel
theorem dMo_fail_8 : decode bMo_fail 8 = .ok (.istore_n 2, 1) := by decide +kernel
theorem dMo_fail_9 : decode bMo_fail 9 = .ok (.iload_n 2, 1) := by decide +kernel
theorem dMo_fail_10 : decode bMo_fail 10 = .ok (.bipush 24, 2) := by decide +kernel
theorem dMo_fail_12 : decode bMo_fail 12 = .ok (.if_icmp .ge 16, 3) := by decide +kernel
theorem dMo_fail_15 : decode bMo_fail 15 = .ok (.aload_n 0, 1) := by decide +kernel
theorem dMo_fail_16 : decode bMo_fail 16 = .ok (.getfield 7, 3) := by decide +kernel
theorem dMo_fail_19 : decode bMo_fail 19 = .ok (.iload_n 2, 1) := by decide +kernel
theorem dMo_fail_20 : decode bMo_fail 20 = .ok (.iconst 0, 1) := by decide +kernel
theorem dMo_fail_21 : decode bMo_fail 21 = .ok (.iastore, 1) := by decide +kernel
theorem dMo_fail_22 : decode bMo_fail 22 = .ok (.iinc 2 1, 3) := by decide +kernel
theorem dMo_fail_25 : decode bMo_fail 25 = .ok (.goto (-16), 3) := by decide +kernel
theorem dMo_fail_28 : decode bMo_fail 28 = .ok (.bipush 24, 2) := by decide +kernel
theorem dMo_fail_30 : decode bMo_fail 30 = .ok (.istore_n 2, 1) := by decide +kernel
theorem dMo_fail_31 : decode bMo_fail 31 = .ok (.iload_n 2, 1) := by decide +kernel
theorem dMo_fail_32 : decode bMo_fail 32 = .ok (.bipush 32, 2) := by decide +kernel
theorem dMo_fail_34 : decode bMo_fail 34 = .ok (.if_icmp .ge 18, 3) := by decide +kernel
theorem dMo_fail_37 : decode bMo_fail 37 = .ok (.iload_n 1, 1) := by decide +kernel
theorem dMo_fail_38 : decode bMo_fail 38 = .ok (.aload_n 0, 1) := by decide +kernel
theorem dMo_fail_39 : decode bMo_fail 39 = .ok (.getfield 7, 3) := by decide +kernel
theorem dMo_fail_42 : decode bMo_fail 42 = .ok (.iload_n 2, 1) := by decide +kernel
theorem dMo_fail_43 : decode bMo_fail 43 = .ok (.iaload, 1) := by decide +kernel
theorem dMo_fail_44 : decode bMo_fail 44 = .ok (.iadd, 1) := by decide +kernel
theorem dMo_fail_45 : decode bMo_fail 45 = .ok (.istore_n 1, 1) := by decide +kernel
theorem dMo_fail_46 : decode bMo_fail 46 = .ok (.iinc 2 1, 3) := by decide +kernel
theorem dMo_fail_49 : decode bMo_fail 49 = .ok (.goto (-18), 3) := by decide +kernel
theorem dMo_fail_52 : decode bMo_fail 52 = .ok (.iconst 0, 1) := by decide +kernel
theorem dMo_fail_53 : decode bMo_fail 53 = .ok (.istore_n 2, 1) := by decide +kernel
theorem dMo_fail_54 : decode bMo_fail 54 = .ok (.iload_n 2, 1) := by decide +kernel
theorem dMo_fail_55 : decode bMo_fail 55 = .ok (.bipush 8, 2) := by decide +kernel
theorem dMo_fail_57 : decode bMo_fail 57 = .ok (.if_icmp .ge 16, 3) := by decide +kernel
theorem dMo_fail_60 : decode bMo_fail 60 = .ok (.aload_n 0, 1) := by decide +kernel
theorem dMo_fail_61 : decode bMo_fail 61 = .ok (.getfield 19, 3) := by decide +kernel
theorem dMo_fail_64 : decode bMo_fail 64 = .ok (.iload_n 2, 1) := by decide +kernel
theorem dMo_fail_65 : decode bMo_fail 65 = .ok (.iconst 0, 1) := by decide +kernel
theorem dMo_fail_66 : decode bMo_fail 66 = .ok (.iastore, 1) := by decide +kernel
theorem dMo_fail_67 : decode bMo_fail 67 = .ok (.iinc 2 1, 3) := by decide +kernel
theorem dMo_fail_70 : decode bMo_fail 70 = .ok (.goto (-16), 3) := by decide +kernel
theorem dMo_fail_73 : decode bMo_fail 73 = .ok (.iconst 0, 1) := by decide +kernel
theorem dMo_fail_74 : decode bMo_fail 74 = .ok (.istore_n 2, 1) := by decide +kernel
theorem dMo_fail_75 : decode bMo_fail 75 = .ok (.iload_n 2, 1) := by decide +kernel
theorem dMo_fail_76 : decode bMo_fail 76 = .ok (.bipush 10, 2) := by decide +kernel
theorem dMo_fail_78 : decode bMo_fail 78 = .ok (.if_icmp .ge 30, 3) := by decide +kernel
theorem dMo_fail_81 : decode bMo_fail 81 = .ok (.aload_n 0, 1) := by decide +kernel
theorem dMo_fail_82 : decode bMo_fail 82 = .ok (.getfield 41, 3) := by decide +kernel
theorem dMo_fail_85 : decode bMo_fail 85 = .ok (.iload_n 2, 1) := by decide +kernel
theorem dMo_fail_86 : decode bMo_fail 86 = .ok (.iconst 0, 1) := by decide +kernel
theorem dMo_fail_87 : decode bMo_fail 87 = .ok (.iastore, 1) := by decide +kernel
theorem dMo_fail_88 : decode bMo_fail 88 = .ok (.aload_n 0, 1) := by decide +kernel
theorem dMo_fail_89 : decode bMo_fail 89 = .ok (.getfield 44, 3) := by decide +kernel
theorem dMo_fail_92 : decode bMo_fail 92 = .ok (.iload_n 2, 1) := by decide +kernel
theorem dMo_fail_93 : decode bMo_fail 93 = .ok (.iconst 0, 1) := by decide +kernel
theorem dMo_fail_94 : decode bMo_fail 94 = .ok (.iastore, 1) := by decide +kernel
theorem dMo_fail_95 : decode bMo_fail 95 = .ok (.aload_n 0, 1) := by decide +kernel
theorem dMo_fail_96 : decode bMo_fail 96 = .ok (.getfield 47, 3) := by decide +kernel
theorem dMo_fail_99 : decode bMo_fail 99 = .ok (.iload_n 2, 1) := by decide +kernel
theorem dMo_fail_100 : decode bMo_fail 100 = .ok (.iconst 0, 1) := by decide +kernel
theorem dMo_fail_101 : decode bMo_fail 101 = .ok (.iastore, 1) := by decide +kernel
theorem dMo_fail_102 : decode bMo_fail 102 = .ok (.iinc 2 1, 3) := by decide +kernel
theorem dMo_fail_105 : decode bMo_fail 105 = .ok (.goto (-30), 3) := by decide +kernel
theorem dMo_fail_108 : decode bMo_fail 108 = .ok (.aload_n 0, 1) := by decide +kernel
theorem dMo_fail_109 : decode bMo_fail 109 = .ok (.iconst 0, 1) := by decide +kernel
theorem dMo_fail_110 : decode bMo_fail 110 = .ok (.putfield 168, 3) := by decide +kernel
theorem dMo_fail_113 : decode bMo_fail 113 = .ok (.iload_n 1, 1) := by decide +kernel
theorem dMo_fail_114 : decode bMo_fail 114 = .ok (.ireturn, 1) := by decide +kernel
theorem dMo_bit_0 : decode bMo_bit 0 = .ok (.aload_n 0, 1) := by decide +kernel
theorem dMo_bit_1 : decode bMo_bit 1 = .ok (.iconst 0, 1) := by decide +kernel
theorem dMo_bit_2 : decode bMo_bit 2 = .ok (.putfield 74, 3) := by decide +kernel
theorem dMo_bit_5 : decode bMo_bit 5 = .ok (.iload_n 1, 1) := by decide +kernel
theorem dMo_bit_6 : decode bMo_bit 6 = .ok (.iconst 0, 1) := by decide +kernel
theorem dMo_bit_7 : decode bMo_bit 7 = .ok (.bipush 31, 2) := by decide +kernel
theorem dMo_bit_9 : decode bMo_bit 9 = .ok (.invokestatic 88, 3) := by decide +kernel
theorem dMo_bit_12 : decode bMo_bit 12 = .ok (.ifCond .eq 11, 3) := by decide +kernel
theorem dMo_bit_15 : decode bMo_bit 15 = .ok (.aload_n 0, 1) := by decide +kernel
theorem dMo_bit_16 : decode bMo_bit 16 = .ok (.iload_n 1, 1) := by decide +kernel
theorem dMo_bit_17 : decode bMo_bit 17 = .ok (.invokevirtual 136, 3) := by decide +kernel
theorem dMo_bit_20 : decode bMo_bit 20 = .ok (.goto 8, 3) := by decide +kernel
theorem dMo_bit_23 : decode bMo_bit 23 = .ok (.aload_n 0, 1) := by decide +kernel
theorem dMo_bit_24 : decode bMo_bit 24 = .ok (.iconst 1, 1) := by decide +kernel
theorem dMo_bit_25 : decode bMo_bit 25 = .ok (.invokevirtual 92, 3) := by decide +kernel
theorem dMo_bit_28 : decode bMo_bit 28 = .ok (.ireturn, 1) := by decide +kernel
theorem dMo_out_0 : decode bMo_out 0 = .ok (.aload_n 0, 1) := by decide +kernel
theorem dMo_out_1 : decode bMo_out 1 = .ok (.iconst 0, 1) := by decide +kernel
theorem dMo_out_2 : decode bMo_out 2 = .ok (.putfield 74, 3) := by decide +kernel
theorem dMo_out_5 : decode bMo_out 5 = .ok (.iload_n 1, 1) := by decide +kernel
theorem dMo_out_6 : decode bMo_out 6 = .ok (.bipush 8, 2) := by decide +kernel
theorem dMo_out_8 : decode bMo_out 8 = .ok (.bipush 15, 2) := by decide +kernel
theorem dMo_out_10 : decode bMo_out 10 = .ok (.invokestatic 88, 3) := by decide +kernel
theorem dMo_out_13 : decode bMo_out 13 = .ok (.ifCond .eq 15, 3) := by decide +kernel
theorem dMo_out_16 : decode bMo_out 16 = .ok (.aload_n 0, 1) := by decide +kernel
theorem dMo_out_17 : decode bMo_out 17 = .ok (.getfield 19, 3) := by decide +kernel
theorem dMo_out_20 : decode bMo_out 20 = .ok (.iload_n 1, 1) := by decide +kernel
theorem dMo_out_21 : decode bMo_out 21 = .ok (.bipush 8, 2) := by decide +kernel
theorem dMo_out_23 : decode bMo_out 23 = .ok (.isub, 1) := by decide +kernel
theorem dMo_out_24 : decode bMo_out 24 = .ok (.iaload, 1) := by decide +kernel
theorem dMo_out_25 : decode bMo_out 25 = .ok (.goto 8, 3) := by decide +kernel
theorem dMo_out_28 : decode bMo_out 28 = .ok (.aload_n 0, 1) := by decide +kernel
theorem dMo_out_29 : decode bMo_out 29 = .ok (.iconst 1, 1) := by decide +kernel
theorem dMo_out_30 : decode bMo_out 30 = .ok (.invokevirtual 92, 3) := by decide +kernel
theorem dMo_out_33 : decode bMo_out 33 = .ok (.ireturn, 1) := by decide +kernel
theorem dMo_register_0 : decode bMo_register 0 = .ok (.aload_n 0, 1) := by decide +kernel
theorem dMo_register_1 : decode bMo_register 1 = .ok (.iconst 0, 1) := by decide +kernel
theorem dMo_register_2 : decode bMo_register 2 = .ok (.putfield 74, 3) := by decide +kernel
theorem dMo_register_5 : decode bMo_register 5 = .ok (.iload_n 1, 1) := by decide +kernel
theorem dMo_register_6 : decode bMo_register 6 = .ok (.iconst 0, 1) := by decide +kernel
theorem dMo_register_7 : decode bMo_register 7 = .ok (.bipush 7, 2) := by decide +kernel
theorem dMo_register_9 : decode bMo_register 9 = .ok (.invokestatic 88, 3) := by decide +kernel
theorem dMo_register_12 : decode bMo_register 12 = .ok (.ifCond .eq 17, 3) := by decide +kernel
theorem dMo_register_15 : decode bMo_register 15 = .ok (.aload_n 0, 1) := by decide +kernel
theorem dMo_register_16 : decode bMo_register 16 = .ok (.getfield 22, 3) := by decide +kernel
theorem dMo_register_19 : decode bMo_register 19 = .ok (.iload_n 1, 1) := by decide +kernel
theorem dMo_register_20 : decode bMo_register 20 = .ok (.laload, 1) := by decide +kernel
theorem dMo_register_21 : decode bMo_register 21 = .ok (.l2d, 1) := by decide +kernel
theorem dMo_register_22 : decode bMo_register 22 = .ok (.ldc2_w 110, 3) := by decide +kernel
theorem dMo_register_25 : decode bMo_register 25 = .ok (.dmul, 1) := by decide +kernel
theorem dMo_register_26 : decode bMo_register 26 = .ok (.goto 9, 3) := by decide +kernel
theorem dMo_register_29 : decode bMo_register 29 = .ok (.aload_n 0, 1) := by decide +kernel
theorem dMo_register_30 : decode bMo_register 30 = .ok (.iconst 1, 1) := by decide +kernel
theorem dMo_register_31 : decode bMo_register 31 = .ok (.invokevirtual 92, 3) := by decide +kernel
theorem dMo_register_34 : decode bMo_register 34 = .ok (.i2d, 1) := by decide +kernel
theorem dMo_register_35 : decode bMo_register 35 = .ok (.dreturn, 1) := by decide +kernel
theorem dMo_state_0 : decode bMo_state 0 = .ok (.aload_n 0, 1) := by decide +kernel
theorem dMo_state_1 : decode bMo_state 1 = .ok (.iconst 0, 1) := by decide +kernel
theorem dMo_state_2 : decode bMo_state 2 = .ok (.putfield 74, 3) := by decide +kernel
theorem dMo_state_5 : decode bMo_state 5 = .ok (.iload_n 1, 1) := by decide +kernel
theorem dMo_state_6 : decode bMo_state 6 = .ok (.iconst 0, 1) := by decide +kernel
theorem dMo_state_7 : decode bMo_state 7 = .ok (.aload_n 0, 1) := by decide +kernel
theorem dMo_state_8 : decode bMo_state 8 = .ok (.getfield 96, 3) := by decide +kernel
theorem dMo_state_11 : decode bMo_state 11 = .ok (.iconst 1, 1) := by decide +kernel
theorem dMo_state_12 : decode bMo_state 12 = .ok (.isub, 1) := by decide +kernel
theorem dMo_state_13 : decode bMo_state 13 = .ok (.invokestatic 88, 3) := by decide +kernel
theorem dMo_state_16 : decode bMo_state 16 = .ok (.ifCond .ne 9, 3) := by decide +kernel
theorem dMo_state_19 : decode bMo_state 19 = .ok (.aload_n 0, 1) := by decide +kernel
theorem dMo_state_20 : decode bMo_state 20 = .ok (.iconst 1, 1) := by decide +kernel
theorem dMo_state_21 : decode bMo_state 21 = .ok (.invokevirtual 92, 3) := by decide +kernel
theorem dMo_state_24 : decode bMo_state 24 = .ok (.ireturn, 1) := by decide +kernel
theorem dMo_state_25 : decode bMo_state 25 = .ok (.iload_n 2, 1) := by decide +kernel
theorem dMo_state_26 : decode bMo_state 26 = .ok (.tableswitch 47 0 2 #[26, 33, 40], 26) := by decide +kernel
theorem dMo_state_52 : decode bMo_state 52 = .ok (.aload_n 0, 1) := by decide +kernel
theorem dMo_state_53 : decode bMo_state 53 = .ok (.getfield 26, 3) := by decide +kernel
theorem dMo_state_56 : decode bMo_state 56 = .ok (.iload_n 1, 1) := by decide +kernel
theorem dMo_state_57 : decode bMo_state 57 = .ok (.iaload, 1) := by decide +kernel
theorem dMo_state_58 : decode bMo_state 58 = .ok (.ireturn, 1) := by decide +kernel
theorem dMo_state_59 : decode bMo_state 59 = .ok (.aload_n 0, 1) := by decide +kernel
theorem dMo_state_60 : decode bMo_state 60 = .ok (.getfield 41, 3) := by decide +kernel
theorem dMo_state_63 : decode bMo_state 63 = .ok (.iload_n 1, 1) := by decide +kernel
theorem dMo_state_64 : decode bMo_state 64 = .ok (.iaload, 1) := by decide +kernel
theorem dMo_state_65 : decode bMo_state 65 = .ok (.ireturn, 1) := by decide +kernel
theorem dMo_state_66 : decode bMo_state 66 = .ok (.aload_n 0, 1) := by decide +kernel
theorem dMo_state_67 : decode bMo_state 67 = .ok (.getfield 44, 3) := by decide +kernel
theorem dMo_state_70 : decode bMo_state 70 = .ok (.iload_n 1, 1) := by decide +kernel
theorem dMo_state_71 : decode bMo_state 71 = .ok (.iaload, 1) := by decide +kernel
theorem dMo_state_72 : decode bMo_state 72 = .ok (.ireturn, 1) := by decide +kernel
theorem dMo_state_73 : decode bMo_state 73 = .ok (.aload_n 0, 1) := by decide +kernel
theorem dMo_state_74 : decode bMo_state 74 = .ok (.iconst 2, 1) := by decide +kernel
theorem dMo_state_75 : decode bMo_state 75 = .ok (.invokevirtual 92, 3) := by decide +kernel
theorem dMo_state_78 : decode bMo_state 78 = .ok (.ireturn, 1) := by decide +kernel
theorem dMo_count_0 : decode bMo_count 0 = .ok (.aload_n 0, 1) := by decide +kernel
theorem dMo_count_1 : decode bMo_count 1 = .ok (.iconst 0, 1) := by decide +kernel
theorem dMo_count_2 : decode bMo_count 2 = .ok (.putfield 74, 3) := by decide +kernel
theorem dMo_count_5 : decode bMo_count 5 = .ok (.iconst 0, 1) := by decide +kernel
theorem dMo_count_6 : decode bMo_count 6 = .ok (.istore_n 2, 1) := by decide +kernel
theorem dMo_count_7 : decode bMo_count 7 = .ok (.iload_n 1, 1) := by decide +kernel
theorem dMo_count_8 : decode bMo_count 8 = .ok (.tableswitch 121 0 5 #[40, 45, 50, 63, 68, 93], 40) := by decide +kernel
theorem dMo_count_48 : decode bMo_count 48 = .ok (.aload_n 0, 1) := by decide +kernel
theorem dMo_count_49 : decode bMo_count 49 = .ok (.getfield 162, 3) := by decide +kernel
theorem dMo_count_52 : decode bMo_count 52 = .ok (.ireturn, 1) := by decide +kernel
theorem dMo_count_53 : decode bMo_count 53 = .ok (.aload_n 0, 1) := by decide +kernel
theorem dMo_count_54 : decode bMo_count 54 = .ok (.getfield 165, 3) := by decide +kernel
theorem dMo_count_57 : decode bMo_count 57 = .ok (.ireturn, 1) := by decide +kernel
theorem dMo_count_58 : decode bMo_count 58 = .ok (.aload_n 0, 1) := by decide +kernel
theorem dMo_count_59 : decode bMo_count 59 = .ok (.getfield 168, 3) := by decide +kernel
theorem dMo_count_62 : decode bMo_count 62 = .ok (.ifCond .eq 7, 3) := by decide +kernel
theorem dMo_count_65 : decode bMo_count 65 = .ok (.iconst 1, 1) := by decide +kernel
theorem dMo_count_66 : decode bMo_count 66 = .ok (.goto 4, 3) := by decide +kernel
theorem dMo_count_69 : decode bMo_count 69 = .ok (.iconst 0, 1) := by decide +kernel
theorem dMo_count_70 : decode bMo_count 70 = .ok (.ireturn, 1) := by decide +kernel
theorem dMo_count_71 : decode bMo_count 71 = .ok (.aload_n 0, 1) := by decide +kernel
theorem dMo_count_72 : decode bMo_count 72 = .ok (.getfield 96, 3) := by decide +kernel
theorem dMo_count_75 : decode bMo_count 75 = .ok (.ireturn, 1) := by decide +kernel
theorem dMo_count_76 : decode bMo_count 76 = .ok (.iconst 0, 1) := by decide +kernel
theorem dMo_count_77 : decode bMo_count 77 = .ok (.istore_n 3, 1) := by decide +kernel
theorem dMo_count_78 : decode bMo_count 78 = .ok (.iload_n 3, 1) := by decide +kernel
theorem dMo_count_79 : decode bMo_count 79 = .ok (.bipush 12, 2) := by decide +kernel
theorem dMo_count_81 : decode bMo_count 81 = .ok (.if_icmp .ge 18, 3) := by decide +kernel
theorem dMo_count_84 : decode bMo_count 84 = .ok (.iload_n 2, 1) := by decide +kernel
theorem dMo_count_85 : decode bMo_count 85 = .ok (.aload_n 0, 1) := by decide +kernel
theorem dMo_count_86 : decode bMo_count 86 = .ok (.getfield 68, 3) := by decide +kernel
theorem dMo_count_89 : decode bMo_count 89 = .ok (.iload_n 3, 1) := by decide +kernel
theorem dMo_count_90 : decode bMo_count 90 = .ok (.iaload, 1) := by decide +kernel
theorem dMo_count_91 : decode bMo_count 91 = .ok (.iadd, 1) := by decide +kernel
theorem dMo_count_92 : decode bMo_count 92 = .ok (.istore_n 2, 1) := by decide +kernel
theorem dMo_count_93 : decode bMo_count 93 = .ok (.iinc 3 1, 3) := by decide +kernel
theorem dMo_count_96 : decode bMo_count 96 = .ok (.goto (-18), 3) := by decide +kernel
theorem dMo_count_99 : decode bMo_count 99 = .ok (.iload_n 2, 1) := by decide +kernel
theorem dMo_count_100 : decode bMo_count 100 = .ok (.ireturn, 1) := by decide +kernel
theorem dMo_count_101 : decode bMo_count 101 = .ok (.iconst 0, 1) := by decide +kernel
theorem dMo_count_102 : decode bMo_count 102 = .ok (.istore_n 3, 1) := by decide +kernel
theorem dMo_count_103 : decode bMo_count 103 = .ok (.iload_n 3, 1) := by decide +kernel
theorem dMo_count_104 : decode bMo_count 104 = .ok (.bipush 32, 2) := by decide +kernel
theorem dMo_count_106 : decode bMo_count 106 = .ok (.if_icmp .ge 21, 3) := by decide +kernel
theorem dMo_count_109 : decode bMo_count 109 = .ok (.aload_n 0, 1) := by decide +kernel
theorem dMo_count_110 : decode bMo_count 110 = .ok (.getfield 13, 3) := by decide +kernel
theorem dMo_count_113 : decode bMo_count 113 = .ok (.iload_n 3, 1) := by decide +kernel
theorem dMo_count_114 : decode bMo_count 114 = .ok (.iaload, 1) := by decide +kernel
theorem dMo_count_115 : decode bMo_count 115 = .ok (.ifCond .lt 6, 3) := by decide +kernel
theorem dMo_count_118 : decode bMo_count 118 = .ok (.iinc 2 1, 3) := by decide +kernel
theorem dMo_count_121 : decode bMo_count 121 = .ok (.iinc 3 1, 3) := by decide +kernel
theorem dMo_count_124 : decode bMo_count 124 = .ok (.goto (-21), 3) := by decide +kernel
theorem dMo_count_127 : decode bMo_count 127 = .ok (.iload_n 2, 1) := by decide +kernel
theorem dMo_count_128 : decode bMo_count 128 = .ok (.ireturn, 1) := by decide +kernel
theorem dMo_count_129 : decode bMo_count 129 = .ok (.aload_n 0, 1) := by decide +kernel
theorem dMo_count_130 : decode bMo_count 130 = .ok (.iconst 1, 1) := by decide +kernel
theorem dMo_count_131 : decode bMo_count 131 = .ok (.invokevirtual 92, 3) := by decide +kernel
theorem dMo_count_134 : decode bMo_count 134 = .ok (.ireturn, 1) := by decide +kernel
