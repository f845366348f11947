/-! decode rows of LadderScan$Block -/
theorem dBl_init_0 : decode bBl_init 0 = .ok (.aload_n 0, 1) := by decide +kernel
theorem dBl_init_1 : decode bBl_init 1 = .ok (.invokespecial 3, 3) := by decide +kernel
theorem dBl_init_4 : decode bBl_init 4 = .ok (.aload_n 0, 1) := by decide +kernel
theorem dBl_init_5 : decode bBl_init 5 = .ok (.iconst 0, 1) := by decide +kernel
theorem dBl_init_6 : decode bBl_init 6 = .ok (.putfield 9, 3) := by decide +kernel
theorem dBl_init_9 : decode bBl_init 9 = .ok (.aload_n 0, 1) := by decide +kernel
theorem dBl_init_10 : decode bBl_init 10 = .ok (.iconst 0, 1) := by decide +kernel
theorem dBl_init_11 : decode bBl_init 11 = .ok (.putfield 15, 3) := by decide +kernel
theorem dBl_init_14 : decode bBl_init 14 = .ok (.aload_n 0, 1) := by decide +kernel
theorem dBl_init_15 : decode bBl_init 15 = .ok (.iconst 0, 1) := by decide +kernel
theorem dBl_init_16 : decode bBl_init 16 = .ok (.putfield 18, 3) := by decide +kernel
theorem dBl_init_19 : decode bBl_init 19 = .ok (.aload_n 0, 1) := by decide +kernel
theorem dBl_init_20 : decode bBl_init 20 = .ok (.iconst 0, 1) := by decide +kernel
theorem dBl_init_21 : decode bBl_init 21 = .ok (.putfield 21, 3) := by decide +kernel
theorem dBl_init_24 : decode bBl_init 24 = .ok (.aload_n 0, 1) := by decide +kernel
theorem dBl_init_25 : decode bBl_init 25 = .ok (.iconst 0, 1) := by decide +kernel
theorem dBl_init_26 : decode bBl_init 26 = .ok (.putfield 24, 3) := by decide +kernel
theorem dBl_init_29 : decode bBl_init 29 = .ok (.aload_n 0, 1) := by decide +kernel
theorem dBl_init_30 : decode bBl_init 30 = .ok (.iconst 0, 1) := by decide +kernel
theorem dBl_init_31 : decode bBl_init 31 = .ok (.putfield 27, 3) := by decide +kernel
theorem dBl_init_34 : decode bBl_init 34 = .ok (.aload_n 0, 1) := by decide +kernel
theorem dBl_init_35 : decode bBl_init 35 = .ok (.iconst 0, 1) := by decide +kernel
theorem dBl_init_36 : decode bBl_init 36 = .ok (.putfield 30, 3) := by decide +kernel
theorem dBl_init_39 : decode bBl_init 39 = .ok (.aload_n 0, 1) := by decide +kernel
theorem dBl_init_40 : decode bBl_init 40 = .ok (.iconst 0, 1) := by decide +kernel
theorem dBl_init_41 : decode bBl_init 41 = .ok (.putfield 33, 3) := by decide +kernel
theorem dBl_init_44 : decode bBl_init 44 = .ok (.return_, 1) := by decide +kernel
theorem dBl_become_0 : decode bBl_become 0 = .ok (.aload_n 0, 1) := by decide +kernel
theorem dBl_become_1 : decode bBl_become 1 = .ok (.iload_n 1, 1) := by decide +kernel
theorem dBl_become_2 : decode bBl_become 2 = .ok (.putfield 9, 3) := by decide +kernel
theorem dBl_become_5 : decode bBl_become 5 = .ok (.aload_n 0, 1) := by decide +kernel
theorem dBl_become_6 : decode bBl_become 6 = .ok (.iload_n 2, 1) := by decide +kernel
theorem dBl_become_7 : decode bBl_become 7 = .ok (.putfield 15, 3) := by decide +kernel
theorem dBl_become_10 : decode bBl_become 10 = .ok (.aload_n 0, 1) := by decide +kernel
theorem dBl_become_11 : decode bBl_become 11 = .ok (.iload_n 3, 1) := by decide +kernel
theorem dBl_become_12 : decode bBl_become 12 = .ok (.putfield 18, 3) := by decide +kernel
theorem dBl_become_15 : decode bBl_become 15 = .ok (.return_, 1) := by decide +kernel
theorem dBl_losePower_0 : decode bBl_losePower 0 = .ok (.aload_n 0, 1) := by decide +kernel
theorem dBl_losePower_1 : decode bBl_losePower 1 = .ok (.iconst 0, 1) := by decide +kernel
theorem dBl_losePower_2 : decode bBl_losePower 2 = .ok (.putfield 27, 3) := by decide +kernel
theorem dBl_losePower_5 : decode bBl_losePower 5 = .ok (.aload_n 0, 1) := by decide +kernel
theorem dBl_losePower_6 : decode bBl_losePower 6 = .ok (.iconst 0, 1) := by decide +kernel
theorem dBl_losePower_7 : decode bBl_losePower 7 = .ok (.putfield 30, 3) := by decide +kernel
theorem dBl_losePower_10 : decode bBl_losePower 10 = .ok (.aload_n 0, 1) := by decide +kernel
theorem dBl_losePower_11 : decode bBl_losePower 11 = .ok (.iconst 0, 1) := by decide +kernel
theorem dBl_losePower_12 : decode bBl_losePower 12 = .ok (.putfield 33, 3) := by decide +kernel
theorem dBl_losePower_15 : decode bBl_losePower 15 = .ok (.return_, 1) := by decide +kernel
theorem dBl_failsWith_0 : decode bBl_failsWith 0 = .ok (.aload_n 0, 1) := by decide +kernel
theorem dBl_failsWith_1 : decode bBl_failsWith 1 = .ok (.getfield 9, 3) := by decide +kernel
theorem dBl_failsWith_4 : decode bBl_failsWith 4 = .ok (.bipush 6, 2) := by decide +kernel
theorem dBl_failsWith_6 : decode bBl_failsWith 6 = .ok (.if_icmp .ne 19, 3) := by decide +kernel
theorem dBl_failsWith_9 : decode bBl_failsWith 9 = .ok (.iload_n 1, 1) := by decide +kernel
theorem dBl_failsWith_10 : decode bBl_failsWith 10 = .ok (.iconst 1, 1) := by decide +kernel
theorem dBl_failsWith_11 : decode bBl_failsWith 11 = .ok (.if_icmp .ne 14, 3) := by decide +kernel
theorem dBl_failsWith_14 : decode bBl_failsWith 14 = .ok (.aload_n 0, 1) := by decide +kernel
theorem dBl_failsWith_15 : decode bBl_failsWith 15 = .ok (.getfield 21, 3) := by decide +kernel
theorem dBl_failsWith_18 : decode bBl_failsWith 18 = .ok (.ifCond .ne 7, 3) := by decide +kernel
theorem dBl_failsWith_21 : decode bBl_failsWith 21 = .ok (.iconst 1, 1) := by decide +kernel
theorem dBl_failsWith_22 : decode bBl_failsWith 22 = .ok (.goto 4, 3) := by decide +kernel
theorem dBl_failsWith_25 : decode bBl_failsWith 25 = .ok (.iconst 0, 1) := by decide +kernel
theorem dBl_failsWith_26 : decode bBl_failsWith 26 = .ok (.ireturn, 1) := by decide +kernel
theorem dBl_work_0 : decode bBl_work 0 = .ok (.aload_n 0, 1) := by decide +kernel
theorem dBl_work_1 : decode bBl_work 1 = .ok (.getfield 9, 3) := by decide +kernel
theorem dBl_work_4 : decode bBl_work 4 = .ok (.tableswitch 223 0 4 #[36, 90, 135, 175, 199], 36) := by decide +kernel
theorem dBl_work_40 : decode bBl_work 40 = .ok (.aload_n 0, 1) := by decide +kernel
theorem dBl_work_41 : decode bBl_work 41 = .ok (.iload_n 1, 1) := by decide +kernel
theorem dBl_work_42 : decode bBl_work 42 = .ok (.iconst 1, 1) := by decide +kernel
theorem dBl_work_43 : decode bBl_work 43 = .ok (.if_icmp .ne 19, 3) := by decide +kernel
theorem dBl_work_46 : decode bBl_work 46 = .ok (.aload_n 0, 1) := by decide +kernel
theorem dBl_work_47 : decode bBl_work 47 = .ok (.getfield 30, 3) := by decide +kernel
theorem dBl_work_50 : decode bBl_work 50 = .ok (.iconst 1, 1) := by decide +kernel
theorem dBl_work_51 : decode bBl_work 51 = .ok (.iadd, 1) := by decide +kernel
theorem dBl_work_52 : decode bBl_work 52 = .ok (.aload_n 0, 1) := by decide +kernel
theorem dBl_work_53 : decode bBl_work 53 = .ok (.getfield 15, 3) := by decide +kernel
theorem dBl_work_56 : decode bBl_work 56 = .ok (.invokestatic 36, 3) := by decide +kernel
theorem dBl_work_59 : decode bBl_work 59 = .ok (.goto 4, 3) := by decide +kernel
theorem dBl_work_62 : decode bBl_work 62 = .ok (.iconst 0, 1) := by decide +kernel
theorem dBl_work_63 : decode bBl_work 63 = .ok (.putfield 30, 3) := by decide +kernel
theorem dBl_work_66 : decode bBl_work 66 = .ok (.aload_n 0, 1) := by decide +kernel
theorem dBl_work_67 : decode bBl_work 67 = .ok (.iload_n 1, 1) := by decide +kernel
theorem dBl_work_68 : decode bBl_work 68 = .ok (.iconst 1, 1) := by decide +kernel
theorem dBl_work_69 : decode bBl_work 69 = .ok (.if_icmp .ne 18, 3) := by decide +kernel
theorem dBl_work_72 : decode bBl_work 72 = .ok (.aload_n 0, 1) := by decide +kernel
theorem dBl_work_73 : decode bBl_work 73 = .ok (.getfield 30, 3) := by decide +kernel
theorem dBl_work_76 : decode bBl_work 76 = .ok (.aload_n 0, 1) := by decide +kernel
theorem dBl_work_77 : decode bBl_work 77 = .ok (.getfield 15, 3) := by decide +kernel
theorem dBl_work_80 : decode bBl_work 80 = .ok (.if_icmp .ne 7, 3) := by decide +kernel
theorem dBl_work_83 : decode bBl_work 83 = .ok (.iconst 1, 1) := by decide +kernel
theorem dBl_work_84 : decode bBl_work 84 = .ok (.goto 4, 3) := by decide +kernel
theorem dBl_work_87 : decode bBl_work 87 = .ok (.iconst 0, 1) := by decide +kernel
theorem dBl_work_88 : decode bBl_work 88 = .ok (.putfield 27, 3) := by decide +kernel
theorem dBl_work_91 : decode bBl_work 91 = .ok (.goto 168, 3) := by decide +kernel
theorem dBl_work_94 : decode bBl_work 94 = .ok (.aload_n 0, 1) := by decide +kernel
theorem dBl_work_95 : decode bBl_work 95 = .ok (.iload_n 1, 1) := by decide +kernel
theorem dBl_work_96 : decode bBl_work 96 = .ok (.iconst 1, 1) := by decide +kernel
theorem dBl_work_97 : decode bBl_work 97 = .ok (.if_icmp .ne 10, 3) := by decide +kernel
theorem dBl_work_100 : decode bBl_work 100 = .ok (.aload_n 0, 1) := by decide +kernel
theorem dBl_work_101 : decode bBl_work 101 = .ok (.getfield 15, 3) := by decide +kernel
theorem dBl_work_104 : decode bBl_work 104 = .ok (.goto 13, 3) := by decide +kernel
theorem dBl_work_107 : decode bBl_work 107 = .ok (.aload_n 0, 1) := by decide +kernel
theorem dBl_work_108 : decode bBl_work 108 = .ok (.getfield 30, 3) := by decide +kernel
theorem dBl_work_111 : decode bBl_work 111 = .ok (.iconst 1, 1) := by decide +kernel
theorem dBl_work_112 : decode bBl_work 112 = .ok (.isub, 1) := by decide +kernel
theorem dBl_work_113 : decode bBl_work 113 = .ok (.iconst 0, 1) := by decide +kernel
theorem dBl_work_114 : decode bBl_work 114 = .ok (.invokestatic 42, 3) := by decide +kernel
theorem dBl_work_117 : decode bBl_work 117 = .ok (.putfield 30, 3) := by decide +kernel
theorem dBl_work_120 : decode bBl_work 120 = .ok (.aload_n 0, 1) := by decide +kernel
theorem dBl_work_121 : decode bBl_work 121 = .ok (.aload_n 0, 1) := by decide +kernel
theorem dBl_work_122 : decode bBl_work 122 = .ok (.getfield 30, 3) := by decide +kernel
theorem dBl_work_125 : decode bBl_work 125 = .ok (.ifCond .le 7, 3) := by decide +kernel
theorem dBl_work_128 : decode bBl_work 128 = .ok (.iconst 1, 1) := by decide +kernel
theorem dBl_work_129 : decode bBl_work 129 = .ok (.goto 4, 3) := by decide +kernel
theorem dBl_work_132 : decode bBl_work 132 = .ok (.iconst 0, 1) := by decide +kernel
theorem dBl_work_133 : decode bBl_work 133 = .ok (.putfield 27, 3) := by decide +kernel
theorem dBl_work_136 : decode bBl_work 136 = .ok (.goto 123, 3) := by decide +kernel
theorem dBl_work_139 : decode bBl_work 139 = .ok (.aload_n 0, 1) := by decide +kernel
theorem dBl_work_140 : decode bBl_work 140 = .ok (.aload_n 0, 1) := by decide +kernel
theorem dBl_work_141 : decode bBl_work 141 = .ok (.iload_n 1, 1) := by decide +kernel
theorem dBl_work_142 : decode bBl_work 142 = .ok (.aload_n 2, 1) := by decide +kernel
theorem dBl_work_143 : decode bBl_work 143 = .ok (.aload_n 0, 1) := by decide +kernel
theorem dBl_work_144 : decode bBl_work 144 = .ok (.getfield 18, 3) := by decide +kernel
theorem dBl_work_147 : decode bBl_work 147 = .ok (.invokevirtual 45, 3) := by decide +kernel
theorem dBl_work_150 : decode bBl_work 150 = .ok (.invokevirtual 51, 3) := by decide +kernel
theorem dBl_work_153 : decode bBl_work 153 = .ok (.putfield 30, 3) := by decide +kernel
theorem dBl_work_156 : decode bBl_work 156 = .ok (.aload_n 0, 1) := by decide +kernel
theorem dBl_work_157 : decode bBl_work 157 = .ok (.aload_n 0, 1) := by decide +kernel
theorem dBl_work_158 : decode bBl_work 158 = .ok (.getfield 30, 3) := by decide +kernel
theorem dBl_work_161 : decode bBl_work 161 = .ok (.aload_n 0, 1) := by decide +kernel
theorem dBl_work_162 : decode bBl_work 162 = .ok (.getfield 15, 3) := by decide +kernel
theorem dBl_work_165 : decode bBl_work 165 = .ok (.if_icmp .ne 7, 3) := by decide +kernel
theorem dBl_work_168 : decode bBl_work 168 = .ok (.iconst 1, 1) := by decide +kernel
theorem dBl_work_169 : decode bBl_work 169 = .ok (.goto 4, 3) := by decide +kernel
theorem dBl_work_172 : decode bBl_work 172 = .ok (.iconst 0, 1) := by decide +kernel
theorem dBl_work_173 : decode bBl_work 173 = .ok (.putfield 27, 3) := by decide +kernel
theorem dBl_work_176 : decode bBl_work 176 = .ok (.goto 83, 3) := by decide +kernel
theorem dBl_work_179 : decode bBl_work 179 = .ok (.aload_n 0, 1) := by decide +kernel
theorem dBl_work_180 : decode bBl_work 180 = .ok (.iload_n 1, 1) := by decide +kernel
theorem dBl_work_181 : decode bBl_work 181 = .ok (.iconst 1, 1) := by decide +kernel
theorem dBl_work_182 : decode bBl_work 182 = .ok (.if_icmp .ne 14, 3) := by decide +kernel
theorem dBl_work_185 : decode bBl_work 185 = .ok (.aload_n 0, 1) := by decide +kernel
theorem dBl_work_186 : decode bBl_work 186 = .ok (.getfield 33, 3) := by decide +kernel
theorem dBl_work_189 : decode bBl_work 189 = .ok (.ifCond .ne 7, 3) := by decide +kernel
theorem dBl_work_192 : decode bBl_work 192 = .ok (.iconst 1, 1) := by decide +kernel
theorem dBl_work_193 : decode bBl_work 193 = .ok (.goto 4, 3) := by decide +kernel
theorem dBl_work_196 : decode bBl_work 196 = .ok (.iconst 0, 1) := by decide +kernel
theorem dBl_work_197 : decode bBl_work 197 = .ok (.putfield 27, 3) := by decide +kernel
theorem dBl_work_200 : decode bBl_work 200 = .ok (.goto 59, 3) := by decide +kernel
theorem dBl_work_203 : decode bBl_work 203 = .ok (.aload_n 0, 1) := by decide +kernel
theorem dBl_work_204 : decode bBl_work 204 = .ok (.iload_n 1, 1) := by decide +kernel
theorem dBl_work_205 : decode bBl_work 205 = .ok (.ifCond .ne 15, 3) := by decide +kernel
theorem dBl_work_208 : decode bBl_work 208 = .ok (.aload_n 0, 1) := by decide +kernel
theorem dBl_work_209 : decode bBl_work 209 = .ok (.getfield 33, 3) := by decide +kernel
theorem dBl_work_212 : decode bBl_work 212 = .ok (.iconst 1, 1) := by decide +kernel
theorem dBl_work_213 : decode bBl_work 213 = .ok (.if_icmp .ne 7, 3) := by decide +kernel
theorem dBl_work_216 : decode bBl_work 216 = .ok (.iconst 1, 1) := by decide +kernel
theorem dBl_work_217 : decode bBl_work 217 = .ok (.goto 4, 3) := by decide +kernel
theorem dBl_work_220 : decode bBl_work 220 = .ok (.iconst 0, 1) := by decide +kernel
theorem dBl_work_221 : decode bBl_work 221 = .ok (.putfield 27, 3) := by decide +kernel
theorem dBl_work_224 : decode bBl_work 224 = .ok (.goto 35, 3) := by decide +kernel
theorem dBl_work_227 : decode bBl_work 227 = .ok (.iload_n 1, 1) := by decide +kernel
theorem dBl_work_228 : decode bBl_work 228 = .ok (.iconst 1, 1) := by decide +kernel
theorem dBl_work_229 : decode bBl_work 229 = .ok (.if_icmp .ne 25, 3) := by decide +kernel
theorem dBl_work_232 : decode bBl_work 232 = .ok (.aload_n 2, 1) := by decide +kernel
theorem dBl_work_233 : decode bBl_work 233 = .ok (.aload_n 0, 1) := by decide +kernel
theorem dBl_work_234 : decode bBl_work 234 = .ok (.getfield 18, 3) := by decide +kernel
theorem dBl_work_237 : decode bBl_work 237 = .ok (.aload_n 0, 1) := by decide +kernel
theorem dBl_work_238 : decode bBl_work 238 = .ok (.aload_n 2, 1) := by decide +kernel
theorem dBl_work_239 : decode bBl_work 239 = .ok (.getfield 54, 3) := by decide +kernel
theorem dBl_work_242 : decode bBl_work 242 = .ok (.aload_n 0, 1) := by decide +kernel
theorem dBl_work_243 : decode bBl_work 243 = .ok (.getfield 15, 3) := by decide +kernel
theorem dBl_work_246 : decode bBl_work 246 = .ok (.iaload, 1) := by decide +kernel
theorem dBl_work_247 : decode bBl_work 247 = .ok (.i2l, 1) := by decide +kernel
theorem dBl_work_248 : decode bBl_work 248 = .ok (.invokevirtual 58, 3) := by decide +kernel
theorem dBl_work_251 : decode bBl_work 251 = .ok (.invokevirtual 62, 3) := by decide +kernel
theorem dBl_work_254 : decode bBl_work 254 = .ok (.aload_n 0, 1) := by decide +kernel
theorem dBl_work_255 : decode bBl_work 255 = .ok (.iload_n 1, 1) := by decide +kernel
theorem dBl_work_256 : decode bBl_work 256 = .ok (.putfield 27, 3) := by decide +kernel
theorem dBl_work_259 : decode bBl_work 259 = .ok (.aload_n 0, 1) := by decide +kernel
theorem dBl_work_260 : decode bBl_work 260 = .ok (.iload_n 1, 1) := by decide +kernel
theorem dBl_work_261 : decode bBl_work 261 = .ok (.putfield 33, 3) := by decide +kernel
theorem dBl_work_264 : decode bBl_work 264 = .ok (.aload_n 0, 1) := by decide +kernel
theorem dBl_work_265 : decode bBl_work 265 = .ok (.getfield 27, 3) := by decide +kernel
theorem dBl_work_268 : decode bBl_work 268 = .ok (.ireturn, 1) := by decide +kernel
theorem dBl_countWith_0 : decode bBl_countWith 0 = .ok (.iload_n 2, 1) := by decide +kernel
theorem dBl_countWith_1 : decode bBl_countWith 1 = .ok (.iconst 1, 1) := by decide +kernel
theorem dBl_countWith_2 : decode bBl_countWith 2 = .ok (.if_icmp .ne 5, 3) := by decide +kernel
theorem dBl_countWith_5 : decode bBl_countWith 5 = .ok (.iconst 0, 1) := by decide +kernel
theorem dBl_countWith_6 : decode bBl_countWith 6 = .ok (.ireturn, 1) := by decide +kernel
theorem dBl_countWith_7 : decode bBl_countWith 7 = .ok (.iload_n 1, 1) := by decide +kernel
theorem dBl_countWith_8 : decode bBl_countWith 8 = .ok (.iconst 1, 1) := by decide +kernel
theorem dBl_countWith_9 : decode bBl_countWith 9 = .ok (.if_icmp .ne 26, 3) := by decide +kernel
theorem dBl_countWith_12 : decode bBl_countWith 12 = .ok (.aload_n 0, 1) := by decide +kernel
theorem dBl_countWith_13 : decode bBl_countWith 13 = .ok (.getfield 33, 3) := by decide +kernel
theorem dBl_countWith_16 : decode bBl_countWith 16 = .ok (.ifCond .ne 19, 3) := by decide +kernel
theorem dBl_countWith_19 : decode bBl_countWith 19 = .ok (.aload_n 0, 1) := by decide +kernel
theorem dBl_countWith_20 : decode bBl_countWith 20 = .ok (.getfield 30, 3) := by decide +kernel
theorem dBl_countWith_23 : decode bBl_countWith 23 = .ok (.iconst 1, 1) := by decide +kernel
theorem dBl_countWith_24 : decode bBl_countWith 24 = .ok (.iadd, 1) := by decide +kernel
theorem dBl_countWith_25 : decode bBl_countWith 25 = .ok (.aload_n 0, 1) := by decide +kernel
theorem dBl_countWith_26 : decode bBl_countWith 26 = .ok (.getfield 15, 3) := by decide +kernel
theorem dBl_countWith_29 : decode bBl_countWith 29 = .ok (.invokestatic 36, 3) := by decide +kernel
theorem dBl_countWith_32 : decode bBl_countWith 32 = .ok (.goto 7, 3) := by decide +kernel
theorem dBl_countWith_35 : decode bBl_countWith 35 = .ok (.aload_n 0, 1) := by decide +kernel
theorem dBl_countWith_36 : decode bBl_countWith 36 = .ok (.getfield 30, 3) := by decide +kernel
theorem dBl_countWith_39 : decode bBl_countWith 39 = .ok (.ireturn, 1) := by decide +kernel
theorem dBl_reckon_0 : decode bBl_reckon 0 = .ok (.aload_n 0, 1) := by decide +kernel
theorem dBl_reckon_1 : decode bBl_reckon 1 = .ok (.getfield 9, 3) := by decide +kernel
theorem dBl_reckon_4 : decode bBl_reckon 4 = .ok (.iconst 5, 1) := by decide +kernel
theorem dBl_reckon_5 : decode bBl_reckon 5 = .ok (.if_icmp .ne 23, 3) := by decide +kernel
theorem dBl_reckon_8 : decode bBl_reckon 8 = .ok (.lload_n 1, 1) := by decide +kernel
theorem dBl_reckon_9 : decode bBl_reckon 9 = .ok (.aload_n 0, 1) := by decide +kernel
theorem dBl_reckon_10 : decode bBl_reckon 10 = .ok (.getfield 21, 3) := by decide +kernel
theorem dBl_reckon_13 : decode bBl_reckon 13 = .ok (.i2l, 1) := by decide +kernel
theorem dBl_reckon_14 : decode bBl_reckon 14 = .ok (.lmul, 1) := by decide +kernel
theorem dBl_reckon_15 : decode bBl_reckon 15 = .ok (.ldc2_w 66, 3) := by decide +kernel
theorem dBl_reckon_18 : decode bBl_reckon 18 = .ok (.invokestatic 68, 3) := by decide +kernel
theorem dBl_reckon_21 : decode bBl_reckon 21 = .ok (.aload_n 0, 1) := by decide +kernel
theorem dBl_reckon_22 : decode bBl_reckon 22 = .ok (.getfield 24, 3) := by decide +kernel
theorem dBl_reckon_25 : decode bBl_reckon 25 = .ok (.i2l, 1) := by decide +kernel
theorem dBl_reckon_26 : decode bBl_reckon 26 = .ok (.ladd, 1) := by decide +kernel
theorem dBl_reckon_27 : decode bBl_reckon 27 = .ok (.lreturn, 1) := by decide +kernel
theorem dBl_reckon_28 : decode bBl_reckon 28 = .ok (.aload_n 0, 1) := by decide +kernel
theorem dBl_reckon_29 : decode bBl_reckon 29 = .ok (.getfield 9, 3) := by decide +kernel
theorem dBl_reckon_32 : decode bBl_reckon 32 = .ok (.bipush 7, 2) := by decide +kernel
theorem dBl_reckon_34 : decode bBl_reckon 34 = .ok (.if_icmp .ne 21, 3) := by decide +kernel
theorem dBl_reckon_37 : decode bBl_reckon 37 = .ok (.aload_n 0, 1) := by decide +kernel
theorem dBl_reckon_38 : decode bBl_reckon 38 = .ok (.getfield 24, 3) := by decide +kernel
theorem dBl_reckon_41 : decode bBl_reckon 41 = .ok (.i2l, 1) := by decide +kernel
theorem dBl_reckon_42 : decode bBl_reckon 42 = .ok (.aload_n 0, 1) := by decide +kernel
theorem dBl_reckon_43 : decode bBl_reckon 43 = .ok (.getfield 21, 3) := by decide +kernel
theorem dBl_reckon_46 : decode bBl_reckon 46 = .ok (.i2l, 1) := by decide +kernel
theorem dBl_reckon_47 : decode bBl_reckon 47 = .ok (.lload_n 1, 1) := by decide +kernel
theorem dBl_reckon_48 : decode bBl_reckon 48 = .ok (.invokestatic 72, 3) := by decide +kernel
theorem dBl_reckon_51 : decode bBl_reckon 51 = .ok (.invokestatic 74, 3) := by decide +kernel
theorem dBl_reckon_54 : decode bBl_reckon 54 = .ok (.lreturn, 1) := by decide +kernel
theorem dBl_reckon_55 : decode bBl_reckon 55 = .ok (.aload_n 0, 1) := by decide +kernel
theorem dBl_reckon_56 : decode bBl_reckon 56 = .ok (.getfield 21, 3) := by decide +kernel
theorem dBl_reckon_59 : decode bBl_reckon 59 = .ok (.ifCond .ne 7, 3) := by decide +kernel
theorem dBl_reckon_62 : decode bBl_reckon 62 = .ok (.lconst 0, 1) := by decide +kernel
theorem dBl_reckon_63 : decode bBl_reckon 63 = .ok (.goto 16, 3) := by decide +kernel
theorem dBl_reckon_66 : decode bBl_reckon 66 = .ok (.lload_n 1, 1) := by decide +kernel
theorem dBl_reckon_67 : decode bBl_reckon 67 = .ok (.ldc2_w 66, 3) := by decide +kernel
theorem dBl_reckon_70 : decode bBl_reckon 70 = .ok (.lmul, 1) := by decide +kernel
theorem dBl_reckon_71 : decode bBl_reckon 71 = .ok (.aload_n 0, 1) := by decide +kernel
theorem dBl_reckon_72 : decode bBl_reckon 72 = .ok (.getfield 21, 3) := by decide +kernel
theorem dBl_reckon_75 : decode bBl_reckon 75 = .ok (.i2l, 1) := by decide +kernel
theorem dBl_reckon_76 : decode bBl_reckon 76 = .ok (.invokestatic 68, 3) := by decide +kernel
theorem dBl_reckon_79 : decode bBl_reckon 79 = .ok (.lreturn, 1) := by decide +kernel
