theorem dX5_copyFrom_36 : decode cX5_copyFrom 36 = .ok (.getfield 18, 3) := by decide +kernel
theorem dX5_copyFrom_39 : decode cX5_copyFrom 39 = .ok (.iconst 0, 1) := by decide +kernel
theorem dX5_copyFrom_40 : decode cX5_copyFrom 40 = .ok (.bipush 12, 2) := by decide +kernel
theorem dX5_copyFrom_42 : decode cX5_copyFrom 42 = .ok (.invokestatic 66, 3) := by decide +kernel
theorem dX5_copyFrom_45 : decode cX5_copyFrom 45 = .ok (.aload_n 1, 1) := by decide +kernel
theorem dX5_copyFrom_46 : decode cX5_copyFrom 46 = .ok (.getfield 21, 3) := by decide +kernel
theorem dX5_copyFrom_49 : decode cX5_copyFrom 49 = .ok (.iconst 0, 1) := by decide +kernel
theorem dX5_copyFrom_50 : decode cX5_copyFrom 50 = .ok (.aload_n 0, 1) := by decide +kernel
theorem dX5_copyFrom_51 : decode cX5_copyFrom 51 = .ok (.getfield 21, 3) := by decide +kernel
theorem dX5_copyFrom_54 : decode cX5_copyFrom 54 = .ok (.iconst 0, 1) := by decide +kernel
theorem dX5_copyFrom_55 : decode cX5_copyFrom 55 = .ok (.bipush 12, 2) := by decide +kernel
theorem dX5_copyFrom_57 : decode cX5_copyFrom 57 = .ok (.invokestatic 66, 3) := by decide +kernel
theorem dX5_copyFrom_60 : decode cX5_copyFrom 60 = .ok (.aload_n 1, 1) := by decide +kernel
theorem dX5_copyFrom_61 : decode cX5_copyFrom 61 = .ok (.getfield 24, 3) := by decide +kernel
theorem dX5_copyFrom_64 : decode cX5_copyFrom 64 = .ok (.iconst 0, 1) := by decide +kernel
theorem dX5_copyFrom_65 : decode cX5_copyFrom 65 = .ok (.aload_n 0, 1) := by decide +kernel
theorem dX5_copyFrom_66 : decode cX5_copyFrom 66 = .ok (.getfield 24, 3) := by decide +kernel
theorem dX5_copyFrom_69 : decode cX5_copyFrom 69 = .ok (.iconst 0, 1) := by decide +kernel
theorem dX5_copyFrom_70 : decode cX5_copyFrom 70 = .ok (.sipush 144, 3) := by decide +kernel
theorem dX5_copyFrom_73 : decode cX5_copyFrom 73 = .ok (.invokestatic 66, 3) := by decide +kernel
theorem dX5_copyFrom_76 : decode cX5_copyFrom 76 = .ok (.return_, 1) := by decide +kernel
theorem dX6_takes_0 : decode cX6_takes 0 = .ok (.iload_n 0, 1) := by decide +kernel
theorem dX6_takes_1 : decode cX6_takes 1 = .ok (.bipush 19, 2) := by decide +kernel
theorem dX6_takes_3 : decode cX6_takes 3 = .ok (.if_icmp .ne 5, 3) := by decide +kernel
theorem dX6_takes_6 : decode cX6_takes 6 = .ok (.iload_n 2, 1) := by decide +kernel
theorem dX6_takes_7 : decode cX6_takes 7 = .ok (.ireturn, 1) := by decide +kernel
theorem dX6_takes_8 : decode cX6_takes 8 = .ok (.iload_n 0, 1) := by decide +kernel
theorem dX6_takes_9 : decode cX6_takes 9 = .ok (.bipush 23, 2) := by decide +kernel
theorem dX6_takes_11 : decode cX6_takes 11 = .ok (.if_icmp .ne 16, 3) := by decide +kernel
theorem dX6_takes_14 : decode cX6_takes 14 = .ok (.iload_n 1, 1) := by decide +kernel
theorem dX6_takes_15 : decode cX6_takes 15 = .ok (.invokestatic 9, 3) := by decide +kernel
theorem dX6_takes_18 : decode cX6_takes 18 = .ok (.ifCond .eq 7, 3) := by decide +kernel
theorem dX6_takes_21 : decode cX6_takes 21 = .ok (.iconst 2, 1) := by decide +kernel
theorem dX6_takes_22 : decode cX6_takes 22 = .ok (.goto 4, 3) := by decide +kernel
theorem dX6_takes_25 : decode cX6_takes 25 = .ok (.iconst 1, 1) := by decide +kernel
theorem dX6_takes_26 : decode cX6_takes 26 = .ok (.ireturn, 1) := by decide +kernel
theorem dX6_takes_27 : decode cX6_takes 27 = .ok (.iload_n 0, 1) := by decide +kernel
theorem dX6_takes_28 : decode cX6_takes 28 = .ok (.ifCond .lt 19, 3) := by decide +kernel
theorem dX6_takes_31 : decode cX6_takes 31 = .ok (.iload_n 0, 1) := by decide +kernel
theorem dX6_takes_32 : decode cX6_takes 32 = .ok (.getstatic 15, 3) := by decide +kernel
theorem dX6_takes_35 : decode cX6_takes 35 = .ok (.arraylength, 1) := by decide +kernel
theorem dX6_takes_36 : decode cX6_takes 36 = .ok (.if_icmp .ge 11, 3) := by decide +kernel
theorem dX6_takes_39 : decode cX6_takes 39 = .ok (.getstatic 15, 3) := by decide +kernel
theorem dX6_takes_42 : decode cX6_takes 42 = .ok (.iload_n 0, 1) := by decide +kernel
theorem dX6_takes_43 : decode cX6_takes 43 = .ok (.iaload, 1) := by decide +kernel
theorem dX6_takes_44 : decode cX6_takes 44 = .ok (.goto 4, 3) := by decide +kernel
theorem dX6_takes_47 : decode cX6_takes 47 = .ok (.iconst 0, 1) := by decide +kernel
theorem dX6_takes_48 : decode cX6_takes 48 = .ok (.ireturn, 1) := by decide +kernel
theorem dX7_init_0 : decode cX7_init 0 = .ok (.aload_n 0, 1) := by decide +kernel
theorem dX7_init_1 : decode cX7_init 1 = .ok (.invokespecial 3, 3) := by decide +kernel
theorem dX7_init_4 : decode cX7_init 4 = .ok (.aload_n 0, 1) := by decide +kernel
theorem dX7_init_5 : decode cX7_init 5 = .ok (.bipush 30, 2) := by decide +kernel
theorem dX7_init_7 : decode cX7_init 7 = .ok (.newarray .int, 2) := by decide +kernel
theorem dX7_init_9 : decode cX7_init 9 = .ok (.putfield 9, 3) := by decide +kernel
theorem dX7_init_12 : decode cX7_init 12 = .ok (.aload_n 0, 1) := by decide +kernel
theorem dX7_init_13 : decode cX7_init 13 = .ok (.bipush 30, 2) := by decide +kernel
theorem dX7_init_15 : decode cX7_init 15 = .ok (.newarray .int, 2) := by decide +kernel
theorem dX7_init_17 : decode cX7_init 17 = .ok (.putfield 15, 3) := by decide +kernel
theorem dX7_init_20 : decode cX7_init 20 = .ok (.aload_n 0, 1) := by decide +kernel
theorem dX7_init_21 : decode cX7_init 21 = .ok (.bipush 30, 2) := by decide +kernel
theorem dX7_init_23 : decode cX7_init 23 = .ok (.newarray .int, 2) := by decide +kernel
theorem dX7_init_25 : decode cX7_init 25 = .ok (.putfield 18, 3) := by decide +kernel
theorem dX7_init_28 : decode cX7_init 28 = .ok (.aload_n 0, 1) := by decide +kernel
theorem dX7_init_29 : decode cX7_init 29 = .ok (.iconst 4, 1) := by decide +kernel
theorem dX7_init_30 : decode cX7_init 30 = .ok (.newarray .int, 2) := by decide +kernel
theorem dX7_init_32 : decode cX7_init 32 = .ok (.putfield 21, 3) := by decide +kernel
theorem dX7_init_35 : decode cX7_init 35 = .ok (.aload_n 0, 1) := by decide +kernel
theorem dX7_init_36 : decode cX7_init 36 = .ok (.iconst 4, 1) := by decide +kernel
theorem dX7_init_37 : decode cX7_init 37 = .ok (.newarray .int, 2) := by decide +kernel
theorem dX7_init_39 : decode cX7_init 39 = .ok (.putfield 24, 3) := by decide +kernel
theorem dX7_init_42 : decode cX7_init 42 = .ok (.aload_n 0, 1) := by decide +kernel
theorem dX7_init_43 : decode cX7_init 43 = .ok (.iconst 4, 1) := by decide +kernel
theorem dX7_init_44 : decode cX7_init 44 = .ok (.newarray .int, 2) := by decide +kernel
theorem dX7_init_46 : decode cX7_init 46 = .ok (.putfield 27, 3) := by decide +kernel
theorem dX7_init_49 : decode cX7_init 49 = .ok (.aload_n 0, 1) := by decide +kernel
theorem dX7_init_50 : decode cX7_init 50 = .ok (.iconst 4, 1) := by decide +kernel
theorem dX7_init_51 : decode cX7_init 51 = .ok (.newarray .int, 2) := by decide +kernel
theorem dX7_init_53 : decode cX7_init 53 = .ok (.putfield 30, 3) := by decide +kernel
theorem dX7_init_56 : decode cX7_init 56 = .ok (.aload_n 0, 1) := by decide +kernel
theorem dX7_init_57 : decode cX7_init 57 = .ok (.iconst (-1), 1) := by decide +kernel
theorem dX7_init_58 : decode cX7_init 58 = .ok (.putfield 33, 3) := by decide +kernel
theorem dX7_init_61 : decode cX7_init 61 = .ok (.aload_n 0, 1) := by decide +kernel
theorem dX7_init_62 : decode cX7_init 62 = .ok (.iload_n 1, 1) := by decide +kernel
theorem dX7_init_63 : decode cX7_init 63 = .ok (.putfield 37, 3) := by decide +kernel
theorem dX7_init_66 : decode cX7_init 66 = .ok (.return_, 1) := by decide +kernel
theorem dX7_admits_0 : decode cX7_admits 0 = .ok (.iload_n 1, 1) := by decide +kernel
theorem dX7_admits_1 : decode cX7_admits 1 = .ok (.tableswitch 241 1 29 #[131, 131, 241, 241, 241, 241, 241, 241, 241, 149, 149, 154, 154, 174, 154, 174, 154, 154, 199, 241, 241, 241, 225, 241, 241, 241, 241, 241, 179], 131) := by decide +kernel
theorem dX7_admits_132 : decode cX7_admits 132 = .ok (.iload_n 2, 1) := by decide +kernel
theorem dX7_admits_133 : decode cX7_admits 133 = .ok (.ifCond .lt 15, 3) := by decide +kernel
theorem dX7_admits_136 : decode cX7_admits 136 = .ok (.iload_n 2, 1) := by decide +kernel
theorem dX7_admits_137 : decode cX7_admits 137 = .ok (.aload_n 0, 1) := by decide +kernel
theorem dX7_admits_138 : decode cX7_admits 138 = .ok (.getfield 37, 3) := by decide +kernel
theorem dX7_admits_141 : decode cX7_admits 141 = .ok (.if_icmp .ge 7, 3) := by decide +kernel
theorem dX7_admits_144 : decode cX7_admits 144 = .ok (.iconst 1, 1) := by decide +kernel
theorem dX7_admits_145 : decode cX7_admits 145 = .ok (.goto 4, 3) := by decide +kernel
theorem dX7_admits_148 : decode cX7_admits 148 = .ok (.iconst 0, 1) := by decide +kernel
theorem dX7_admits_149 : decode cX7_admits 149 = .ok (.ireturn, 1) := by decide +kernel
theorem dX7_admits_150 : decode cX7_admits 150 = .ok (.iload_n 2, 1) := by decide +kernel
theorem dX7_admits_151 : decode cX7_admits 151 = .ok (.invokestatic 40, 3) := by decide +kernel
theorem dX7_admits_154 : decode cX7_admits 154 = .ok (.ireturn, 1) := by decide +kernel
theorem dX7_admits_155 : decode cX7_admits 155 = .ok (.iload_n 2, 1) := by decide +kernel
theorem dX7_admits_156 : decode cX7_admits 156 = .ok (.invokestatic 44, 3) := by decide +kernel
theorem dX7_admits_159 : decode cX7_admits 159 = .ok (.ifCond .eq 14, 3) := by decide +kernel
theorem dX7_admits_162 : decode cX7_admits 162 = .ok (.iload_n 3, 1) := by decide +kernel
theorem dX7_admits_163 : decode cX7_admits 163 = .ok (.invokestatic 47, 3) := by decide +kernel
theorem dX7_admits_166 : decode cX7_admits 166 = .ok (.ifCond .eq 7, 3) := by decide +kernel
theorem dX7_admits_169 : decode cX7_admits 169 = .ok (.iconst 1, 1) := by decide +kernel
theorem dX7_admits_170 : decode cX7_admits 170 = .ok (.goto 4, 3) := by decide +kernel
theorem dX7_admits_173 : decode cX7_admits 173 = .ok (.iconst 0, 1) := by decide +kernel
theorem dX7_admits_174 : decode cX7_admits 174 = .ok (.ireturn, 1) := by decide +kernel
theorem dX7_admits_175 : decode cX7_admits 175 = .ok (.iload_n 2, 1) := by decide +kernel
theorem dX7_admits_176 : decode cX7_admits 176 = .ok (.invokestatic 44, 3) := by decide +kernel
theorem dX7_admits_179 : decode cX7_admits 179 = .ok (.ireturn, 1) := by decide +kernel
theorem dX7_admits_180 : decode cX7_admits 180 = .ok (.iload_n 2, 1) := by decide +kernel
theorem dX7_admits_181 : decode cX7_admits 181 = .ok (.invokestatic 44, 3) := by decide +kernel
theorem dX7_admits_184 : decode cX7_admits 184 = .ok (.ifCond .eq 14, 3) := by decide +kernel
theorem dX7_admits_187 : decode cX7_admits 187 = .ok (.iload_n 3, 1) := by decide +kernel
theorem dX7_admits_188 : decode cX7_admits 188 = .ok (.invokestatic 44, 3) := by decide +kernel
theorem dX7_admits_191 : decode cX7_admits 191 = .ok (.ifCond .eq 7, 3) := by decide +kernel
theorem dX7_admits_194 : decode cX7_admits 194 = .ok (.iconst 1, 1) := by decide +kernel
theorem dX7_admits_195 : decode cX7_admits 195 = .ok (.goto 4, 3) := by decide +kernel
theorem dX7_admits_198 : decode cX7_admits 198 = .ok (.iconst 0, 1) := by decide +kernel
theorem dX7_admits_199 : decode cX7_admits 199 = .ok (.ireturn, 1) := by decide +kernel
theorem dX7_admits_200 : decode cX7_admits 200 = .ok (.iload_n 2, 1) := by decide +kernel
theorem dX7_admits_201 : decode cX7_admits 201 = .ok (.ifCond .lt 23, 3) := by decide +kernel
theorem dX7_admits_204 : decode cX7_admits 204 = .ok (.iload_n 2, 1) := by decide +kernel
theorem dX7_admits_205 : decode cX7_admits 205 = .ok (.bipush 12, 2) := by decide +kernel
theorem dX7_admits_207 : decode cX7_admits 207 = .ok (.if_icmp .ge 17, 3) := by decide +kernel
theorem dX7_admits_210 : decode cX7_admits 210 = .ok (.iload_n 3, 1) := by decide +kernel
theorem dX7_admits_211 : decode cX7_admits 211 = .ok (.ifCond .lt 13, 3) := by decide +kernel
theorem dX7_admits_214 : decode cX7_admits 214 = .ok (.iload_n 3, 1) := by decide +kernel
theorem dX7_admits_215 : decode cX7_admits 215 = .ok (.bipush 6, 2) := by decide +kernel
theorem dX7_admits_217 : decode cX7_admits 217 = .ok (.if_icmp .gt 7, 3) := by decide +kernel
theorem dX7_admits_220 : decode cX7_admits 220 = .ok (.iconst 1, 1) := by decide +kernel
theorem dX7_admits_221 : decode cX7_admits 221 = .ok (.goto 4, 3) := by decide +kernel
theorem dX7_admits_224 : decode cX7_admits 224 = .ok (.iconst 0, 1) := by decide +kernel
theorem dX7_admits_225 : decode cX7_admits 225 = .ok (.ireturn, 1) := by decide +kernel
theorem dX7_admits_226 : decode cX7_admits 226 = .ok (.iload_n 2, 1) := by decide +kernel
theorem dX7_admits_227 : decode cX7_admits 227 = .ok (.ifCond .lt 13, 3) := by decide +kernel
theorem dX7_admits_230 : decode cX7_admits 230 = .ok (.iload_n 2, 1) := by decide +kernel
theorem dX7_admits_231 : decode cX7_admits 231 = .ok (.bipush 9, 2) := by decide +kernel
theorem dX7_admits_233 : decode cX7_admits 233 = .ok (.if_icmp .ge 7, 3) := by decide +kernel
theorem dX7_admits_236 : decode cX7_admits 236 = .ok (.iconst 1, 1) := by decide +kernel
theorem dX7_admits_237 : decode cX7_admits 237 = .ok (.goto 4, 3) := by decide +kernel
theorem dX7_admits_240 : decode cX7_admits 240 = .ok (.iconst 0, 1) := by decide +kernel
theorem dX7_admits_241 : decode cX7_admits 241 = .ok (.ireturn, 1) := by decide +kernel
theorem dX7_admits_242 : decode cX7_admits 242 = .ok (.iload_n 1, 1) := by decide +kernel
theorem dX7_admits_243 : decode cX7_admits 243 = .ok (.ifCond .lt 13, 3) := by decide +kernel
theorem dX7_admits_246 : decode cX7_admits 246 = .ok (.iload_n 1, 1) := by decide +kernel
theorem dX7_admits_247 : decode cX7_admits 247 = .ok (.bipush 29, 2) := by decide +kernel
theorem dX7_admits_249 : decode cX7_admits 249 = .ok (.if_icmp .gt 7, 3) := by decide +kernel
theorem dX7_admits_252 : decode cX7_admits 252 = .ok (.iconst 1, 1) := by decide +kernel
theorem dX7_admits_253 : decode cX7_admits 253 = .ok (.goto 4, 3) := by decide +kernel
theorem dX7_admits_256 : decode cX7_admits 256 = .ok (.iconst 0, 1) := by decide +kernel
theorem dX7_admits_257 : decode cX7_admits 257 = .ok (.ireturn, 1) := by decide +kernel
theorem dX7_addOp_0 : decode cX7_addOp 0 = .ok (.aload_n 0, 1) := by decide +kernel
theorem dX7_addOp_1 : decode cX7_addOp 1 = .ok (.getfield 52, 3) := by decide +kernel
theorem dX7_addOp_4 : decode cX7_addOp 4 = .ok (.bipush 30, 2) := by decide +kernel
theorem dX7_addOp_6 : decode cX7_addOp 6 = .ok (.if_icmp .lt 6, 3) := by decide +kernel
theorem dX7_addOp_9 : decode cX7_addOp 9 = .ok (.ldc 55, 2) := by decide +kernel
theorem dX7_addOp_11 : decode cX7_addOp 11 = .ok (.ireturn, 1) := by decide +kernel
theorem dX7_addOp_12 : decode cX7_addOp 12 = .ok (.aload_n 0, 1) := by decide +kernel
theorem dX7_addOp_13 : decode cX7_addOp 13 = .ok (.getfield 9, 3) := by decide +kernel
theorem dX7_addOp_16 : decode cX7_addOp 16 = .ok (.aload_n 0, 1) := by decide +kernel
theorem dX7_addOp_17 : decode cX7_addOp 17 = .ok (.getfield 52, 3) := by decide +kernel
theorem dX7_addOp_20 : decode cX7_addOp 20 = .ok (.iload_n 1, 1) := by decide +kernel
theorem dX7_addOp_21 : decode cX7_addOp 21 = .ok (.iastore, 1) := by decide +kernel
theorem dX7_addOp_22 : decode cX7_addOp 22 = .ok (.aload_n 0, 1) := by decide +kernel
theorem dX7_addOp_23 : decode cX7_addOp 23 = .ok (.getfield 15, 3) := by decide +kernel
theorem dX7_addOp_26 : decode cX7_addOp 26 = .ok (.aload_n 0, 1) := by decide +kernel
theorem dX7_addOp_27 : decode cX7_addOp 27 = .ok (.getfield 52, 3) := by decide +kernel
theorem dX7_addOp_30 : decode cX7_addOp 30 = .ok (.iload_n 2, 1) := by decide +kernel
theorem dX7_addOp_31 : decode cX7_addOp 31 = .ok (.iastore, 1) := by decide +kernel
theorem dX7_addOp_32 : decode cX7_addOp 32 = .ok (.aload_n 0, 1) := by decide +kernel
theorem dX7_addOp_33 : decode cX7_addOp 33 = .ok (.getfield 18, 3) := by decide +kernel
theorem dX7_addOp_36 : decode cX7_addOp 36 = .ok (.aload_n 0, 1) := by decide +kernel
theorem dX7_addOp_37 : decode cX7_addOp 37 = .ok (.getfield 52, 3) := by decide +kernel
theorem dX7_addOp_40 : decode cX7_addOp 40 = .ok (.iload_n 3, 1) := by decide +kernel
theorem dX7_addOp_41 : decode cX7_addOp 41 = .ok (.iastore, 1) := by decide +kernel
theorem dX7_addOp_42 : decode cX7_addOp 42 = .ok (.aload_n 0, 1) := by decide +kernel
theorem dX7_addOp_43 : decode cX7_addOp 43 = .ok (.dup, 1) := by decide +kernel
theorem dX7_addOp_44 : decode cX7_addOp 44 = .ok (.getfield 52, 3) := by decide +kernel
theorem dX7_addOp_47 : decode cX7_addOp 47 = .ok (.iconst 1, 1) := by decide +kernel
theorem dX7_addOp_48 : decode cX7_addOp 48 = .ok (.iadd, 1) := by decide +kernel
theorem dX7_addOp_49 : decode cX7_addOp 49 = .ok (.putfield 52, 3) := by decide +kernel
theorem dX7_addOp_52 : decode cX7_addOp 52 = .ok (.aload_n 0, 1) := by decide +kernel
theorem dX7_addOp_53 : decode cX7_addOp 53 = .ok (.getfield 52, 3) := by decide +kernel
theorem dX7_addOp_56 : decode cX7_addOp 56 = .ok (.iconst 1, 1) := by decide +kernel
theorem dX7_addOp_57 : decode cX7_addOp 57 = .ok (.isub, 1) := by decide +kernel
theorem dX7_addOp_58 : decode cX7_addOp 58 = .ok (.ireturn, 1) := by decide +kernel
theorem dX7_addGuard_0 : decode cX7_addGuard 0 = .ok (.aload_n 0, 1) := by decide +kernel
theorem dX7_addGuard_1 : decode cX7_addGuard 1 = .ok (.getfield 56, 3) := by decide +kernel
theorem dX7_addGuard_4 : decode cX7_addGuard 4 = .ok (.iconst 4, 1) := by decide +kernel
theorem dX7_addGuard_5 : decode cX7_addGuard 5 = .ok (.if_icmp .lt 6, 3) := by decide +kernel
theorem dX7_addGuard_8 : decode cX7_addGuard 8 = .ok (.ldc 55, 2) := by decide +kernel
theorem dX7_addGuard_10 : decode cX7_addGuard 10 = .ok (.ireturn, 1) := by decide +kernel
theorem dX7_addGuard_11 : decode cX7_addGuard 11 = .ok (.aload_n 0, 1) := by decide +kernel
theorem dX7_addGuard_12 : decode cX7_addGuard 12 = .ok (.getfield 21, 3) := by decide +kernel
theorem dX7_addGuard_15 : decode cX7_addGuard 15 = .ok (.aload_n 0, 1) := by decide +kernel
theorem dX7_addGuard_16 : decode cX7_addGuard 16 = .ok (.getfield 56, 3) := by decide +kernel
theorem dX7_addGuard_19 : decode cX7_addGuard 19 = .ok (.iload_n 1, 1) := by decide +kernel
theorem dX7_addGuard_20 : decode cX7_addGuard 20 = .ok (.iastore, 1) := by decide +kernel
theorem dX7_addGuard_21 : decode cX7_addGuard 21 = .ok (.aload_n 0, 1) := by decide +kernel
theorem dX7_addGuard_22 : decode cX7_addGuard 22 = .ok (.getfield 24, 3) := by decide +kernel
theorem dX7_addGuard_25 : decode cX7_addGuard 25 = .ok (.aload_n 0, 1) := by decide +kernel
theorem dX7_addGuard_26 : decode cX7_addGuard 26 = .ok (.getfield 56, 3) := by decide +kernel
theorem dX7_addGuard_29 : decode cX7_addGuard 29 = .ok (.iload_n 2, 1) := by decide +kernel
theorem dX7_addGuard_30 : decode cX7_addGuard 30 = .ok (.iastore, 1) := by decide +kernel
theorem dX7_addGuard_31 : decode cX7_addGuard 31 = .ok (.aload_n 0, 1) := by decide +kernel
theorem dX7_addGuard_32 : decode cX7_addGuard 32 = .ok (.getfield 27, 3) := by decide +kernel
theorem dX7_addGuard_35 : decode cX7_addGuard 35 = .ok (.aload_n 0, 1) := by decide +kernel
theorem dX7_addGuard_36 : decode cX7_addGuard 36 = .ok (.getfield 56, 3) := by decide +kernel
theorem dX7_addGuard_39 : decode cX7_addGuard 39 = .ok (.iload_n 3, 1) := by decide +kernel
theorem dX7_addGuard_40 : decode cX7_addGuard 40 = .ok (.iastore, 1) := by decide +kernel
theorem dX7_addGuard_41 : decode cX7_addGuard 41 = .ok (.aload_n 0, 1) := by decide +kernel
theorem dX7_addGuard_42 : decode cX7_addGuard 42 = .ok (.getfield 30, 3) := by decide +kernel
theorem dX7_addGuard_45 : decode cX7_addGuard 45 = .ok (.aload_n 0, 1) := by decide +kernel
theorem dX7_addGuard_46 : decode cX7_addGuard 46 = .ok (.getfield 56, 3) := by decide +kernel
theorem dX7_addGuard_49 : decode cX7_addGuard 49 = .ok (.iload 4, 2) := by decide +kernel
theorem dX7_addGuard_51 : decode cX7_addGuard 51 = .ok (.iastore, 1) := by decide +kernel
theorem dX7_addGuard_52 : decode cX7_addGuard 52 = .ok (.aload_n 0, 1) := by decide +kernel
theorem dX7_addGuard_53 : decode cX7_addGuard 53 = .ok (.dup, 1) := by decide +kernel
theorem dX7_addGuard_54 : decode cX7_addGuard 54 = .ok (.getfield 56, 3) := by decide +kernel
theorem dX7_addGuard_57 : decode cX7_addGuard 57 = .ok (.iconst 1, 1) := by decide +kernel
theorem dX7_addGuard_58 : decode cX7_addGuard 58 = .ok (.iadd, 1) := by decide +kernel
theorem dX7_addGuard_59 : decode cX7_addGuard 59 = .ok (.putfield 56, 3) := by decide +kernel
theorem dX7_addGuard_62 : decode cX7_addGuard 62 = .ok (.aload_n 0, 1) := by decide +kernel
theorem dX7_addGuard_63 : decode cX7_addGuard 63 = .ok (.getfield 56, 3) := by decide +kernel
theorem dX7_addGuard_66 : decode cX7_addGuard 66 = .ok (.iconst 1, 1) := by decide +kernel
theorem dX7_addGuard_67 : decode cX7_addGuard 67 = .ok (.isub, 1) := by decide +kernel
theorem dX7_addGuard_68 : decode cX7_addGuard 68 = .ok (.ireturn, 1) := by decide +kernel
theorem dX7_hasOp_0 : decode cX7_hasOp 0 = .ok (.iload_n 1, 1) := by decide +kernel
theorem dX7_hasOp_1 : decode cX7_hasOp 1 = .ok (.ifCond .lt 15, 3) := by decide +kernel
theorem dX7_hasOp_4 : decode cX7_hasOp 4 = .ok (.iload_n 1, 1) := by decide +kernel
theorem dX7_hasOp_5 : decode cX7_hasOp 5 = .ok (.aload_n 0, 1) := by decide +kernel
theorem dX7_hasOp_6 : decode cX7_hasOp 6 = .ok (.getfield 52, 3) := by decide +kernel
theorem dX7_hasOp_9 : decode cX7_hasOp 9 = .ok (.if_icmp .ge 7, 3) := by decide +kernel
theorem dX7_hasOp_12 : decode cX7_hasOp 12 = .ok (.iconst 1, 1) := by decide +kernel
theorem dX7_hasOp_13 : decode cX7_hasOp 13 = .ok (.goto 4, 3) := by decide +kernel
theorem dX7_hasOp_16 : decode cX7_hasOp 16 = .ok (.iconst 0, 1) := by decide +kernel
theorem dX7_hasOp_17 : decode cX7_hasOp 17 = .ok (.ireturn, 1) := by decide +kernel
theorem dX7_handlerOf_0 : decode cX7_handlerOf 0 = .ok (.iconst 0, 1) := by decide +kernel
theorem dX7_handlerOf_1 : decode cX7_handlerOf 1 = .ok (.istore_n 3, 1) := by decide +kernel
theorem dX7_handlerOf_2 : decode cX7_handlerOf 2 = .ok (.iload_n 3, 1) := by decide +kernel
theorem dX7_handlerOf_3 : decode cX7_handlerOf 3 = .ok (.aload_n 0, 1) := by decide +kernel
theorem dX7_handlerOf_4 : decode cX7_handlerOf 4 = .ok (.getfield 56, 3) := by decide +kernel
theorem dX7_handlerOf_7 : decode cX7_handlerOf 7 = .ok (.if_icmp .ge 80, 3) := by decide +kernel
theorem dX7_handlerOf_10 : decode cX7_handlerOf 10 = .ok (.aload_n 0, 1) := by decide +kernel
theorem dX7_handlerOf_11 : decode cX7_handlerOf 11 = .ok (.getfield 21, 3) := by decide +kernel
theorem dX7_handlerOf_14 : decode cX7_handlerOf 14 = .ok (.iload_n 3, 1) := by decide +kernel
theorem dX7_handlerOf_15 : decode cX7_handlerOf 15 = .ok (.iaload, 1) := by decide +kernel
theorem dX7_handlerOf_16 : decode cX7_handlerOf 16 = .ok (.iload_n 1, 1) := by decide +kernel
theorem dX7_handlerOf_17 : decode cX7_handlerOf 17 = .ok (.if_icmp .gt 17, 3) := by decide +kernel
theorem dX7_handlerOf_20 : decode cX7_handlerOf 20 = .ok (.iload_n 1, 1) := by decide +kernel
theorem dX7_handlerOf_21 : decode cX7_handlerOf 21 = .ok (.aload_n 0, 1) := by decide +kernel
theorem dX7_handlerOf_22 : decode cX7_handlerOf 22 = .ok (.getfield 24, 3) := by decide +kernel
theorem dX7_handlerOf_25 : decode cX7_handlerOf 25 = .ok (.iload_n 3, 1) := by decide +kernel
theorem dX7_handlerOf_26 : decode cX7_handlerOf 26 = .ok (.iaload, 1) := by decide +kernel
theorem dX7_handlerOf_27 : decode cX7_handlerOf 27 = .ok (.if_icmp .ge 7, 3) := by decide +kernel
theorem dX7_handlerOf_30 : decode cX7_handlerOf 30 = .ok (.iconst 1, 1) := by decide +kernel
theorem dX7_handlerOf_31 : decode cX7_handlerOf 31 = .ok (.goto 4, 3) := by decide +kernel
theorem dX7_handlerOf_34 : decode cX7_handlerOf 34 = .ok (.iconst 0, 1) := by decide +kernel
theorem dX7_handlerOf_35 : decode cX7_handlerOf 35 = .ok (.istore 4, 2) := by decide +kernel
theorem dX7_handlerOf_37 : decode cX7_handlerOf 37 = .ok (.iload 4, 2) := by decide +kernel
theorem dX7_handlerOf_39 : decode cX7_handlerOf 39 = .ok (.ifCond .eq 42, 3) := by decide +kernel
theorem dX7_handlerOf_42 : decode cX7_handlerOf 42 = .ok (.aload_n 0, 1) := by decide +kernel
theorem dX7_handlerOf_43 : decode cX7_handlerOf 43 = .ok (.getfield 27, 3) := by decide +kernel
theorem dX7_handlerOf_46 : decode cX7_handlerOf 46 = .ok (.iload_n 3, 1) := by decide +kernel
theorem dX7_handlerOf_47 : decode cX7_handlerOf 47 = .ok (.iaload, 1) := by decide +kernel
theorem dX7_handlerOf_48 : decode cX7_handlerOf 48 = .ok (.iload_n 2, 1) := by decide +kernel
theorem dX7_handlerOf_49 : decode cX7_handlerOf 49 = .ok (.if_icmp .eq 12, 3) := by decide +kernel
theorem dX7_handlerOf_52 : decode cX7_handlerOf 52 = .ok (.aload_n 0, 1) := by decide +kernel
theorem dX7_handlerOf_53 : decode cX7_handlerOf 53 = .ok (.getfield 27, 3) := by decide +kernel
theorem dX7_handlerOf_56 : decode cX7_handlerOf 56 = .ok (.iload_n 3, 1) := by decide +kernel
theorem dX7_handlerOf_57 : decode cX7_handlerOf 57 = .ok (.iaload, 1) := by decide +kernel
theorem dX7_handlerOf_58 : decode cX7_handlerOf 58 = .ok (.ifCond .ne 23, 3) := by decide +kernel
theorem dX7_handlerOf_61 : decode cX7_handlerOf 61 = .ok (.aload_n 0, 1) := by decide +kernel
theorem dX7_handlerOf_62 : decode cX7_handlerOf 62 = .ok (.aload_n 0, 1) := by decide +kernel
theorem dX7_handlerOf_63 : decode cX7_handlerOf 63 = .ok (.getfield 30, 3) := by decide +kernel
theorem dX7_handlerOf_66 : decode cX7_handlerOf 66 = .ok (.iload_n 3, 1) := by decide +kernel
theorem dX7_handlerOf_67 : decode cX7_handlerOf 67 = .ok (.iaload, 1) := by decide +kernel
theorem dX7_handlerOf_68 : decode cX7_handlerOf 68 = .ok (.invokevirtual 59, 3) := by decide +kernel
theorem dX7_handlerOf_71 : decode cX7_handlerOf 71 = .ok (.ifCond .eq 10, 3) := by decide +kernel
theorem dX7_handlerOf_74 : decode cX7_handlerOf 74 = .ok (.aload_n 0, 1) := by decide +kernel
theorem dX7_handlerOf_75 : decode cX7_handlerOf 75 = .ok (.getfield 30, 3) := by decide +kernel
theorem dX7_handlerOf_78 : decode cX7_handlerOf 78 = .ok (.iload_n 3, 1) := by decide +kernel
theorem dX7_handlerOf_79 : decode cX7_handlerOf 79 = .ok (.iaload, 1) := by decide +kernel
theorem dX7_handlerOf_80 : decode cX7_handlerOf 80 = .ok (.ireturn, 1) := by decide +kernel
theorem dX7_handlerOf_81 : decode cX7_handlerOf 81 = .ok (.iinc 3 1, 3) := by decide +kernel
theorem dX7_handlerOf_84 : decode cX7_handlerOf 84 = .ok (.goto (-82), 3) := by decide +kernel
theorem dX7_handlerOf_87 : decode cX7_handlerOf 87 = .ok (.iconst (-1), 1) := by decide +kernel
theorem dX7_handlerOf_88 : decode cX7_handlerOf 88 = .ok (.ireturn, 1) := by decide +kernel
theorem dX8_init_0 : decode cX8_init 0 = .ok (.aload_n 0, 1) := by decide +kernel
theorem dX8_init_1 : decode cX8_init 1 = .ok (.invokespecial 3, 3) := by decide +kernel
theorem dX8_init_4 : decode cX8_init 4 = .ok (.aload_n 0, 1) := by decide +kernel
theorem dX8_init_5 : decode cX8_init 5 = .ok (.bipush 12, 2) := by decide +kernel
theorem dX8_init_7 : decode cX8_init 7 = .ok (.newarray .int, 2) := by decide +kernel
theorem dX8_init_9 : decode cX8_init 9 = .ok (.putfield 9, 3) := by decide +kernel
theorem dX8_init_12 : decode cX8_init 12 = .ok (.aload_n 0, 1) := by decide +kernel
theorem dX8_init_13 : decode cX8_init 13 = .ok (.bipush 12, 2) := by decide +kernel
theorem dX8_init_15 : decode cX8_init 15 = .ok (.newarray .int, 2) := by decide +kernel
theorem dX8_init_17 : decode cX8_init 17 = .ok (.putfield 15, 3) := by decide +kernel
theorem dX8_init_20 : decode cX8_init 20 = .ok (.aload_n 0, 1) := by decide +kernel
theorem dX8_init_21 : decode cX8_init 21 = .ok (.bipush 12, 2) := by decide +kernel
theorem dX8_init_23 : decode cX8_init 23 = .ok (.newarray .int, 2) := by decide +kernel
theorem dX8_init_25 : decode cX8_init 25 = .ok (.putfield 18, 3) := by decide +kernel
theorem dX8_init_28 : decode cX8_init 28 = .ok (.aload_n 0, 1) := by decide +kernel
theorem dX8_init_29 : decode cX8_init 29 = .ok (.bipush 12, 2) := by decide +kernel
theorem dX8_init_31 : decode cX8_init 31 = .ok (.newarray .int, 2) := by decide +kernel
theorem dX8_init_33 : decode cX8_init 33 = .ok (.putfield 21, 3) := by decide +kernel
theorem dX8_init_36 : decode cX8_init 36 = .ok (.aload_n 0, 1) := by decide +kernel
theorem dX8_init_37 : decode cX8_init 37 = .ok (.bipush 48, 2) := by decide +kernel
theorem dX8_init_39 : decode cX8_init 39 = .ok (.newarray .int, 2) := by decide +kernel
theorem dX8_init_41 : decode cX8_init 41 = .ok (.putfield 24, 3) := by decide +kernel
theorem dX8_init_44 : decode cX8_init 44 = .ok (.aload_n 0, 1) := by decide +kernel
theorem dX8_init_45 : decode cX8_init 45 = .ok (.getfield 24, 3) := by decide +kernel
theorem dX8_init_48 : decode cX8_init 48 = .ok (.iconst (-1), 1) := by decide +kernel
theorem dX8_init_49 : decode cX8_init 49 = .ok (.invokestatic 27, 3) := by decide +kernel
theorem dX8_init_52 : decode cX8_init 52 = .ok (.return_, 1) := by decide +kernel
theorem dX8_bring_0 : decode cX8_bring 0 = .ok (.aload_n 0, 1) := by decide +kernel
theorem dX8_bring_1 : decode cX8_bring 1 = .ok (.getfield 33, 3) := by decide +kernel
theorem dX8_bring_4 : decode cX8_bring 4 = .ok (.bipush 12, 2) := by decide +kernel
theorem dX8_bring_6 : decode cX8_bring 6 = .ok (.if_icmp .lt 6, 3) := by decide +kernel
theorem dX8_bring_9 : decode cX8_bring 9 = .ok (.ldc 37, 2) := by decide +kernel
theorem dX8_bring_11 : decode cX8_bring 11 = .ok (.ireturn, 1) := by decide +kernel
theorem dX8_bring_12 : decode cX8_bring 12 = .ok (.aload_n 0, 1) := by decide +kernel
theorem dX8_bring_13 : decode cX8_bring 13 = .ok (.getfield 9, 3) := by decide +kernel
theorem dX8_bring_16 : decode cX8_bring 16 = .ok (.aload_n 0, 1) := by decide +kernel
theorem dX8_bring_17 : decode cX8_bring 17 = .ok (.getfield 33, 3) := by decide +kernel
theorem dX8_bring_20 : decode cX8_bring 20 = .ok (.iload_n 1, 1) := by decide +kernel
theorem dX8_bring_21 : decode cX8_bring 21 = .ok (.iastore, 1) := by decide +kernel
theorem dX8_bring_22 : decode cX8_bring 22 = .ok (.aload_n 0, 1) := by decide +kernel
theorem dX8_bring_23 : decode cX8_bring 23 = .ok (.dup, 1) := by decide +kernel
theorem dX8_bring_24 : decode cX8_bring 24 = .ok (.getfield 33, 3) := by decide +kernel
theorem dX8_bring_27 : decode cX8_bring 27 = .ok (.iconst 1, 1) := by decide +kernel
theorem dX8_bring_28 : decode cX8_bring 28 = .ok (.iadd, 1) := by decide +kernel
theorem dX8_bring_29 : decode cX8_bring 29 = .ok (.putfield 33, 3) := by decide +kernel
theorem dX8_bring_32 : decode cX8_bring 32 = .ok (.aload_n 0, 1) := by decide +kernel
theorem dX8_bring_33 : decode cX8_bring 33 = .ok (.getfield 33, 3) := by decide +kernel
theorem dX8_bring_36 : decode cX8_bring 36 = .ok (.iconst 1, 1) := by decide +kernel
theorem dX8_bring_37 : decode cX8_bring 37 = .ok (.isub, 1) := by decide +kernel
theorem dX8_bring_38 : decode cX8_bring 38 = .ok (.ireturn, 1) := by decide +kernel
theorem dX8_exists_0 : decode cX8_exists 0 = .ok (.lload_n 1, 1) := by decide +kernel
theorem dX8_exists_1 : decode cX8_exists 1 = .ok (.lconst 0, 1) := by decide +kernel
theorem dX8_exists_2 : decode cX8_exists 2 = .ok (.lcmp, 1) := by decide +kernel
theorem dX8_exists_3 : decode cX8_exists 3 = .ok (.ifCond .lt 17, 3) := by decide +kernel
theorem dX8_exists_6 : decode cX8_exists 6 = .ok (.lload_n 1, 1) := by decide +kernel
theorem dX8_exists_7 : decode cX8_exists 7 = .ok (.aload_n 0, 1) := by decide +kernel
theorem dX8_exists_8 : decode cX8_exists 8 = .ok (.getfield 33, 3) := by decide +kernel
theorem dX8_exists_11 : decode cX8_exists 11 = .ok (.i2l, 1) := by decide +kernel
theorem dX8_exists_12 : decode cX8_exists 12 = .ok (.lcmp, 1) := by decide +kernel
theorem dX8_exists_13 : decode cX8_exists 13 = .ok (.ifCond .ge 7, 3) := by decide +kernel
theorem dX8_exists_16 : decode cX8_exists 16 = .ok (.iconst 1, 1) := by decide +kernel
theorem dX8_exists_17 : decode cX8_exists 17 = .ok (.goto 4, 3) := by decide +kernel
theorem dX8_exists_20 : decode cX8_exists 20 = .ok (.iconst 0, 1) := by decide +kernel
theorem dX8_exists_21 : decode cX8_exists 21 = .ok (.ireturn, 1) := by decide +kernel
theorem dX8_tell_0 : decode cX8_tell 0 = .ok (.iload_n 2, 1) := by decide +kernel
theorem dX8_tell_1 : decode cX8_tell 1 = .ok (.tableswitch 69 0 4 #[35, 42, 49, 56, 63], 35) := by decide +kernel
theorem dX8_tell_36 : decode cX8_tell 36 = .ok (.aload_n 0, 1) := by decide +kernel
theorem dX8_tell_37 : decode cX8_tell 37 = .ok (.getfield 9, 3) := by decide +kernel
theorem dX8_tell_40 : decode cX8_tell 40 = .ok (.iload_n 1, 1) := by decide +kernel
theorem dX8_tell_41 : decode cX8_tell 41 = .ok (.iaload, 1) := by decide +kernel
theorem dX8_tell_42 : decode cX8_tell 42 = .ok (.ireturn, 1) := by decide +kernel
theorem dX8_tell_43 : decode cX8_tell 43 = .ok (.aload_n 0, 1) := by decide +kernel
theorem dX8_tell_44 : decode cX8_tell 44 = .ok (.getfield 15, 3) := by decide +kernel
theorem dX8_tell_47 : decode cX8_tell 47 = .ok (.iload_n 1, 1) := by decide +kernel
theorem dX8_tell_48 : decode cX8_tell 48 = .ok (.iaload, 1) := by decide +kernel
theorem dX8_tell_49 : decode cX8_tell 49 = .ok (.ireturn, 1) := by decide +kernel
theorem dX8_tell_50 : decode cX8_tell 50 = .ok (.aload_n 0, 1) := by decide +kernel
theorem dX8_tell_51 : decode cX8_tell 51 = .ok (.getfield 18, 3) := by decide +kernel
theorem dX8_tell_54 : decode cX8_tell 54 = .ok (.iload_n 1, 1) := by decide +kernel
theorem dX8_tell_55 : decode cX8_tell 55 = .ok (.iaload, 1) := by decide +kernel
theorem dX8_tell_56 : decode cX8_tell 56 = .ok (.ireturn, 1) := by decide +kernel
theorem dX8_tell_57 : decode cX8_tell 57 = .ok (.aload_n 0, 1) := by decide +kernel
theorem dX8_tell_58 : decode cX8_tell 58 = .ok (.getfield 21, 3) := by decide +kernel
theorem dX8_tell_61 : decode cX8_tell 61 = .ok (.iload_n 1, 1) := by decide +kernel
theorem dX8_tell_62 : decode cX8_tell 62 = .ok (.iaload, 1) := by decide +kernel
theorem dX8_tell_63 : decode cX8_tell 63 = .ok (.ireturn, 1) := by decide +kernel
theorem dX8_tell_64 : decode cX8_tell 64 = .ok (.aload_n 0, 1) := by decide +kernel
theorem dX8_tell_65 : decode cX8_tell 65 = .ok (.iload_n 1, 1) := by decide +kernel
theorem dX8_tell_66 : decode cX8_tell 66 = .ok (.invokevirtual 38, 3) := by decide +kernel
theorem dX8_tell_69 : decode cX8_tell 69 = .ok (.ireturn, 1) := by decide +kernel
theorem dX8_tell_70 : decode cX8_tell 70 = .ok (.iload_n 2, 1) := by decide +kernel
theorem dX8_tell_71 : decode cX8_tell 71 = .ok (.iconst 5, 1) := by decide +kernel
theorem dX8_tell_72 : decode cX8_tell 72 = .ok (.if_icmp .lt 25, 3) := by decide +kernel
theorem dX8_tell_75 : decode cX8_tell 75 = .ok (.iload_n 2, 1) := by decide +kernel
theorem dX8_tell_76 : decode cX8_tell 76 = .ok (.iconst 5, 1) := by decide +kernel
theorem dX8_tell_77 : decode cX8_tell 77 = .ok (.isub, 1) := by decide +kernel
theorem dX8_tell_78 : decode cX8_tell 78 = .ok (.aload_n 0, 1) := by decide +kernel
theorem dX8_tell_79 : decode cX8_tell 79 = .ok (.iload_n 1, 1) := by decide +kernel
theorem dX8_tell_80 : decode cX8_tell 80 = .ok (.invokevirtual 38, 3) := by decide +kernel
theorem dX8_tell_83 : decode cX8_tell 83 = .ok (.if_icmp .ge 14, 3) := by decide +kernel
theorem dX8_tell_86 : decode cX8_tell 86 = .ok (.aload_n 0, 1) := by decide +kernel
theorem dX8_tell_87 : decode cX8_tell 87 = .ok (.iload_n 1, 1) := by decide +kernel
theorem dX8_tell_88 : decode cX8_tell 88 = .ok (.iload_n 2, 1) := by decide +kernel
theorem dX8_tell_89 : decode cX8_tell 89 = .ok (.iconst 5, 1) := by decide +kernel
theorem dX8_tell_90 : decode cX8_tell 90 = .ok (.isub, 1) := by decide +kernel
theorem dX8_tell_91 : decode cX8_tell 91 = .ok (.invokevirtual 42, 3) := by decide +kernel
theorem dX8_tell_94 : decode cX8_tell 94 = .ok (.goto 4, 3) := by decide +kernel
theorem dX8_tell_97 : decode cX8_tell 97 = .ok (.iconst 0, 1) := by decide +kernel
theorem dX8_tell_98 : decode cX8_tell 98 = .ok (.ireturn, 1) := by decide +kernel
theorem dX8_isA_0 : decode cX8_isA 0 = .ok (.aload_n 0, 1) := by decide +kernel
theorem dX8_isA_1 : decode cX8_isA 1 = .ok (.getfield 9, 3) := by decide +kernel
theorem dX8_isA_4 : decode cX8_isA 4 = .ok (.iload_n 1, 1) := by decide +kernel
theorem dX8_isA_5 : decode cX8_isA 5 = .ok (.iaload, 1) := by decide +kernel
theorem dX8_isA_6 : decode cX8_isA 6 = .ok (.istore_n 3, 1) := by decide +kernel
theorem dX8_isA_7 : decode cX8_isA 7 = .ok (.iconst 0, 1) := by decide +kernel
theorem dX8_isA_8 : decode cX8_isA 8 = .ok (.istore 4, 2) := by decide +kernel
theorem dX8_isA_10 : decode cX8_isA 10 = .ok (.iload 4, 2) := by decide +kernel
theorem dX8_isA_12 : decode cX8_isA 12 = .ok (.bipush 6, 2) := by decide +kernel
theorem dX8_isA_14 : decode cX8_isA 14 = .ok (.if_icmp .ge 27, 3) := by decide +kernel
theorem dX8_isA_17 : decode cX8_isA 17 = .ok (.iload_n 3, 1) := by decide +kernel
theorem dX8_isA_18 : decode cX8_isA 18 = .ok (.iconst (-1), 1) := by decide +kernel
theorem dX8_isA_19 : decode cX8_isA 19 = .ok (.if_icmp .eq 22, 3) := by decide +kernel
theorem dX8_isA_22 : decode cX8_isA 22 = .ok (.iload_n 3, 1) := by decide +kernel
theorem dX8_isA_23 : decode cX8_isA 23 = .ok (.iload_n 2, 1) := by decide +kernel
theorem dX8_isA_24 : decode cX8_isA 24 = .ok (.if_icmp .ne 5, 3) := by decide +kernel
theorem dX8_isA_27 : decode cX8_isA 27 = .ok (.iconst 1, 1) := by decide +kernel
theorem dX8_isA_28 : decode cX8_isA 28 = .ok (.ireturn, 1) := by decide +kernel
theorem dX8_isA_29 : decode cX8_isA 29 = .ok (.getstatic 46, 3) := by decide +kernel
theorem dX8_isA_32 : decode cX8_isA 32 = .ok (.iload_n 3, 1) := by decide +kernel
theorem dX8_isA_33 : decode cX8_isA 33 = .ok (.iaload, 1) := by decide +kernel
theorem dX8_isA_34 : decode cX8_isA 34 = .ok (.istore_n 3, 1) := by decide +kernel
theorem dX8_isA_35 : decode cX8_isA 35 = .ok (.iinc 4 1, 3) := by decide +kernel
theorem dX8_isA_38 : decode cX8_isA 38 = .ok (.goto (-28), 3) := by decide +kernel
theorem dX8_isA_41 : decode cX8_isA 41 = .ok (.iconst 0, 1) := by decide +kernel
theorem dX8_isA_42 : decode cX8_isA 42 = .ok (.ireturn, 1) := by decide +kernel
theorem dX8_placesOf_0 : decode cX8_placesOf 0 = .ok (.getstatic 49, 3) := by decide +kernel
theorem dX8_placesOf_3 : decode cX8_placesOf 3 = .ok (.aload_n 0, 1) := by decide +kernel
theorem dX8_placesOf_4 : decode cX8_placesOf 4 = .ok (.getfield 9, 3) := by decide +kernel
theorem dX8_placesOf_7 : decode cX8_placesOf 7 = .ok (.iload_n 1, 1) := by decide +kernel
theorem dX8_placesOf_8 : decode cX8_placesOf 8 = .ok (.iaload, 1) := by decide +kernel
theorem dX8_placesOf_9 : decode cX8_placesOf 9 = .ok (.iaload, 1) := by decide +kernel
theorem dX8_placesOf_10 : decode cX8_placesOf 10 = .ok (.ireturn, 1) := by decide +kernel
theorem dX8_reachShelf_0 : decode cX8_reachShelf 0 = .ok (.aload_n 0, 1) := by decide +kernel
theorem dX8_reachShelf_1 : decode cX8_reachShelf 1 = .ok (.lload_n 1, 1) := by decide +kernel
theorem dX8_reachShelf_2 : decode cX8_reachShelf 2 = .ok (.invokevirtual 52, 3) := by decide +kernel
theorem dX8_reachShelf_5 : decode cX8_reachShelf 5 = .ok (.ifCond .ne 5, 3) := by decide +kernel
theorem dX8_reachShelf_8 : decode cX8_reachShelf 8 = .ok (.iconst 1, 1) := by decide +kernel
theorem dX8_reachShelf_9 : decode cX8_reachShelf 9 = .ok (.ireturn, 1) := by decide +kernel
theorem dX8_reachShelf_10 : decode cX8_reachShelf 10 = .ok (.lload_n 3, 1) := by decide +kernel
theorem dX8_reachShelf_11 : decode cX8_reachShelf 11 = .ok (.lconst 0, 1) := by decide +kernel
theorem dX8_reachShelf_12 : decode cX8_reachShelf 12 = .ok (.lcmp, 1) := by decide +kernel
theorem dX8_reachShelf_13 : decode cX8_reachShelf 13 = .ok (.ifCond .lt 15, 3) := by decide +kernel
theorem dX8_reachShelf_16 : decode cX8_reachShelf 16 = .ok (.lload_n 3, 1) := by decide +kernel
theorem dX8_reachShelf_17 : decode cX8_reachShelf 17 = .ok (.aload_n 0, 1) := by decide +kernel
theorem dX8_reachShelf_18 : decode cX8_reachShelf 18 = .ok (.lload_n 1, 1) := by decide +kernel
theorem dX8_reachShelf_19 : decode cX8_reachShelf 19 = .ok (.l2i, 1) := by decide +kernel
theorem dX8_reachShelf_20 : decode cX8_reachShelf 20 = .ok (.invokevirtual 38, 3) := by decide +kernel
theorem dX8_reachShelf_23 : decode cX8_reachShelf 23 = .ok (.i2l, 1) := by decide +kernel
theorem dX8_reachShelf_24 : decode cX8_reachShelf 24 = .ok (.lcmp, 1) := by decide +kernel
theorem dX8_reachShelf_25 : decode cX8_reachShelf 25 = .ok (.ifCond .lt 7, 3) := by decide +kernel
theorem dX8_reachShelf_28 : decode cX8_reachShelf 28 = .ok (.iconst 2, 1) := by decide +kernel
theorem dX8_reachShelf_29 : decode cX8_reachShelf 29 = .ok (.goto 4, 3) := by decide +kernel
theorem dX8_reachShelf_32 : decode cX8_reachShelf 32 = .ok (.iconst 0, 1) := by decide +kernel
theorem dX8_reachShelf_33 : decode cX8_reachShelf 33 = .ok (.ireturn, 1) := by decide +kernel
theorem dX8_lies_0 : decode cX8_lies 0 = .ok (.aload_n 0, 1) := by decide +kernel
theorem dX8_lies_1 : decode cX8_lies 1 = .ok (.getfield 24, 3) := by decide +kernel
theorem dX8_lies_4 : decode cX8_lies 4 = .ok (.iload_n 1, 1) := by decide +kernel
theorem dX8_lies_5 : decode cX8_lies 5 = .ok (.iconst 4, 1) := by decide +kernel
theorem dX8_lies_6 : decode cX8_lies 6 = .ok (.imul, 1) := by decide +kernel
theorem dX8_lies_7 : decode cX8_lies 7 = .ok (.iload_n 2, 1) := by decide +kernel
theorem dX8_lies_8 : decode cX8_lies 8 = .ok (.iadd, 1) := by decide +kernel
theorem dX8_lies_9 : decode cX8_lies 9 = .ok (.iaload, 1) := by decide +kernel
theorem dX8_lies_10 : decode cX8_lies 10 = .ok (.ireturn, 1) := by decide +kernel
theorem dX8_layOnShelf_0 : decode cX8_layOnShelf 0 = .ok (.aload_n 0, 1) := by decide +kernel
theorem dX8_layOnShelf_1 : decode cX8_layOnShelf 1 = .ok (.lload_n 1, 1) := by decide +kernel
theorem dX8_layOnShelf_2 : decode cX8_layOnShelf 2 = .ok (.invokevirtual 52, 3) := by decide +kernel
theorem dX8_layOnShelf_5 : decode cX8_layOnShelf 5 = .ok (.ifCond .eq 21, 3) := by decide +kernel
theorem dX8_layOnShelf_8 : decode cX8_layOnShelf 8 = .ok (.lload 5, 2) := by decide +kernel
theorem dX8_layOnShelf_10 : decode cX8_layOnShelf 10 = .ok (.ldc2_w 56, 3) := by decide +kernel
theorem dX8_layOnShelf_13 : decode cX8_layOnShelf 13 = .ok (.lcmp, 1) := by decide +kernel
theorem dX8_layOnShelf_14 : decode cX8_layOnShelf 14 = .ok (.ifCond .eq 14, 3) := by decide +kernel
theorem dX8_layOnShelf_17 : decode cX8_layOnShelf 17 = .ok (.aload_n 0, 1) := by decide +kernel
theorem dX8_layOnShelf_18 : decode cX8_layOnShelf 18 = .ok (.lload 5, 2) := by decide +kernel
theorem dX8_layOnShelf_20 : decode cX8_layOnShelf 20 = .ok (.invokevirtual 52, 3) := by decide +kernel
theorem dX8_layOnShelf_23 : decode cX8_layOnShelf 23 = .ok (.ifCond .ne 5, 3) := by decide +kernel
theorem dX8_layOnShelf_26 : decode cX8_layOnShelf 26 = .ok (.iconst 1, 1) := by decide +kernel
theorem dX8_layOnShelf_27 : decode cX8_layOnShelf 27 = .ok (.ireturn, 1) := by decide +kernel
theorem dX8_layOnShelf_28 : decode cX8_layOnShelf 28 = .ok (.aload_n 0, 1) := by decide +kernel
theorem dX8_layOnShelf_29 : decode cX8_layOnShelf 29 = .ok (.lload_n 1, 1) := by decide +kernel
theorem dX8_layOnShelf_30 : decode cX8_layOnShelf 30 = .ok (.lload_n 3, 1) := by decide +kernel
theorem dX8_layOnShelf_31 : decode cX8_layOnShelf 31 = .ok (.invokevirtual 58, 3) := by decide +kernel
theorem dX8_layOnShelf_34 : decode cX8_layOnShelf 34 = .ok (.istore 7, 2) := by decide +kernel
theorem dX8_layOnShelf_36 : decode cX8_layOnShelf 36 = .ok (.iload 7, 2) := by decide +kernel
theorem dX8_layOnShelf_38 : decode cX8_layOnShelf 38 = .ok (.ifCond .eq 6, 3) := by decide +kernel
theorem dX8_layOnShelf_41 : decode cX8_layOnShelf 41 = .ok (.iload 7, 2) := by decide +kernel
theorem dX8_layOnShelf_43 : decode cX8_layOnShelf 43 = .ok (.ireturn, 1) := by decide +kernel
theorem dX8_layOnShelf_44 : decode cX8_layOnShelf 44 = .ok (.lload 5, 2) := by decide +kernel
theorem dX8_layOnShelf_46 : decode cX8_layOnShelf 46 = .ok (.ldc2_w 56, 3) := by decide +kernel
theorem dX8_layOnShelf_49 : decode cX8_layOnShelf 49 = .ok (.lcmp, 1) := by decide +kernel
theorem dX8_layOnShelf_50 : decode cX8_layOnShelf 50 = .ok (.ifCond .eq 26, 3) := by decide +kernel
theorem dX8_layOnShelf_53 : decode cX8_layOnShelf 53 = .ok (.aload_n 0, 1) := by decide +kernel
theorem dX8_layOnShelf_54 : decode cX8_layOnShelf 54 = .ok (.lload 5, 2) := by decide +kernel
theorem dX8_layOnShelf_56 : decode cX8_layOnShelf 56 = .ok (.l2i, 1) := by decide +kernel
theorem dX8_layOnShelf_57 : decode cX8_layOnShelf 57 = .ok (.getstatic 62, 3) := by decide +kernel
theorem dX8_layOnShelf_60 : decode cX8_layOnShelf 60 = .ok (.aload_n 0, 1) := by decide +kernel
theorem dX8_layOnShelf_61 : decode cX8_layOnShelf 61 = .ok (.getfield 9, 3) := by decide +kernel
theorem dX8_layOnShelf_64 : decode cX8_layOnShelf 64 = .ok (.lload_n 1, 1) := by decide +kernel
theorem dX8_layOnShelf_65 : decode cX8_layOnShelf 65 = .ok (.l2i, 1) := by decide +kernel
theorem dX8_layOnShelf_66 : decode cX8_layOnShelf 66 = .ok (.iaload, 1) := by decide +kernel
theorem dX8_layOnShelf_67 : decode cX8_layOnShelf 67 = .ok (.iaload, 1) := by decide +kernel
theorem dX8_layOnShelf_68 : decode cX8_layOnShelf 68 = .ok (.invokevirtual 65, 3) := by decide +kernel
theorem dX8_layOnShelf_71 : decode cX8_layOnShelf 71 = .ok (.ifCond .ne 5, 3) := by decide +kernel
theorem dX8_layOnShelf_74 : decode cX8_layOnShelf 74 = .ok (.iconst 4, 1) := by decide +kernel
theorem dX8_layOnShelf_75 : decode cX8_layOnShelf 75 = .ok (.ireturn, 1) := by decide +kernel
theorem dX8_layOnShelf_76 : decode cX8_layOnShelf 76 = .ok (.aload_n 0, 1) := by decide +kernel
theorem dX8_layOnShelf_77 : decode cX8_layOnShelf 77 = .ok (.getfield 24, 3) := by decide +kernel
theorem dX8_layOnShelf_80 : decode cX8_layOnShelf 80 = .ok (.lload_n 1, 1) := by decide +kernel
theorem dX8_layOnShelf_81 : decode cX8_layOnShelf 81 = .ok (.l2i, 1) := by decide +kernel
theorem dX8_layOnShelf_82 : decode cX8_layOnShelf 82 = .ok (.iconst 4, 1) := by decide +kernel
theorem dX8_layOnShelf_83 : decode cX8_layOnShelf 83 = .ok (.imul, 1) := by decide +kernel
theorem dX8_layOnShelf_84 : decode cX8_layOnShelf 84 = .ok (.lload_n 3, 1) := by decide +kernel
theorem dX8_layOnShelf_85 : decode cX8_layOnShelf 85 = .ok (.l2i, 1) := by decide +kernel
theorem dX8_layOnShelf_86 : decode cX8_layOnShelf 86 = .ok (.iadd, 1) := by decide +kernel
theorem dX8_layOnShelf_87 : decode cX8_layOnShelf 87 = .ok (.lload 5, 2) := by decide +kernel
theorem dX8_layOnShelf_89 : decode cX8_layOnShelf 89 = .ok (.l2i, 1) := by decide +kernel
theorem dX8_layOnShelf_90 : decode cX8_layOnShelf 90 = .ok (.iastore, 1) := by decide +kernel
theorem dX8_layOnShelf_91 : decode cX8_layOnShelf 91 = .ok (.iconst 0, 1) := by decide +kernel
theorem dX8_layOnShelf_92 : decode cX8_layOnShelf 92 = .ok (.ireturn, 1) := by decide +kernel
theorem dX8_hasNumber_0 : decode cX8_hasNumber 0 = .ok (.iload_n 0, 1) := by decide +kernel
theorem dX8_hasNumber_1 : decode cX8_hasNumber 1 = .ok (.iconst 1, 1) := by decide +kernel
theorem dX8_hasNumber_2 : decode cX8_hasNumber 2 = .ok (.if_icmp .eq 9, 3) := by decide +kernel
theorem dX8_hasNumber_5 : decode cX8_hasNumber 5 = .ok (.iload_n 0, 1) := by decide +kernel
theorem dX8_hasNumber_6 : decode cX8_hasNumber 6 = .ok (.bipush 6, 2) := by decide +kernel
theorem dX8_hasNumber_8 : decode cX8_hasNumber 8 = .ok (.if_icmp .lt 7, 3) := by decide +kernel
theorem dX8_hasNumber_11 : decode cX8_hasNumber 11 = .ok (.iconst 1, 1) := by decide +kernel
theorem dX8_hasNumber_12 : decode cX8_hasNumber 12 = .ok (.goto 4, 3) := by decide +kernel
theorem dX8_hasNumber_15 : decode cX8_hasNumber 15 = .ok (.iconst 0, 1) := by decide +kernel
theorem dX8_hasNumber_16 : decode cX8_hasNumber 16 = .ok (.ireturn, 1) := by decide +kernel
theorem dX8_send_0 : decode cX8_send 0 = .ok (.iload_n 2, 1) := by decide +kernel
theorem dX8_send_1 : decode cX8_send 1 = .ok (.tableswitch 146 0 7 #[47, 58, 65, 76, 82, 94, 119, 138], 47) := by decide +kernel
theorem dX8_send_48 : decode cX8_send 48 = .ok (.aload_n 0, 1) := by decide +kernel
theorem dX8_send_49 : decode cX8_send 49 = .ok (.aload_n 0, 1) := by decide +kernel
theorem dX8_send_50 : decode cX8_send 50 = .ok (.iload_n 1, 1) := by decide +kernel
theorem dX8_send_51 : decode cX8_send 51 = .ok (.invokevirtual 69, 3) := by decide +kernel
theorem dX8_send_54 : decode cX8_send 54 = .ok (.putfield 72, 3) := by decide +kernel
theorem dX8_send_57 : decode cX8_send 57 = .ok (.iconst 0, 1) := by decide +kernel
theorem dX8_send_58 : decode cX8_send 58 = .ok (.ireturn, 1) := by decide +kernel
theorem dX8_send_59 : decode cX8_send 59 = .ok (.aload_n 0, 1) := by decide +kernel
theorem dX8_send_60 : decode cX8_send 60 = .ok (.iload_n 1, 1) := by decide +kernel
theorem dX8_send_61 : decode cX8_send 61 = .ok (.iload_n 3, 1) := by decide +kernel
theorem dX8_send_62 : decode cX8_send 62 = .ok (.invokevirtual 75, 3) := by decide +kernel
theorem dX8_send_65 : decode cX8_send 65 = .ok (.ireturn, 1) := by decide +kernel
theorem dX8_send_66 : decode cX8_send 66 = .ok (.aload_n 0, 1) := by decide +kernel
theorem dX8_send_67 : decode cX8_send 67 = .ok (.iload_n 1, 1) := by decide +kernel
theorem dX8_send_68 : decode cX8_send 68 = .ok (.aload_n 0, 1) := by decide +kernel
theorem dX8_send_69 : decode cX8_send 69 = .ok (.iload_n 1, 1) := by decide +kernel
theorem dX8_send_70 : decode cX8_send 70 = .ok (.invokevirtual 69, 3) := by decide +kernel
theorem dX8_send_73 : decode cX8_send 73 = .ok (.invokevirtual 78, 3) := by decide +kernel
theorem dX8_send_76 : decode cX8_send 76 = .ok (.ireturn, 1) := by decide +kernel
theorem dX8_send_77 : decode cX8_send 77 = .ok (.aload_n 0, 1) := by decide +kernel
theorem dX8_send_78 : decode cX8_send 78 = .ok (.iload_n 1, 1) := by decide +kernel
theorem dX8_send_79 : decode cX8_send 79 = .ok (.invokevirtual 81, 3) := by decide +kernel
theorem dX8_send_82 : decode cX8_send 82 = .ok (.ireturn, 1) := by decide +kernel
theorem dX8_send_83 : decode cX8_send 83 = .ok (.aload_n 0, 1) := by decide +kernel
theorem dX8_send_84 : decode cX8_send 84 = .ok (.aload_n 0, 1) := by decide +kernel
theorem dX8_send_85 : decode cX8_send 85 = .ok (.getfield 18, 3) := by decide +kernel
theorem dX8_send_88 : decode cX8_send 88 = .ok (.iload_n 1, 1) := by decide +kernel
theorem dX8_send_89 : decode cX8_send 89 = .ok (.iaload, 1) := by decide +kernel
theorem dX8_send_90 : decode cX8_send 90 = .ok (.putfield 72, 3) := by decide +kernel
theorem dX8_send_93 : decode cX8_send 93 = .ok (.iconst 0, 1) := by decide +kernel
theorem dX8_send_94 : decode cX8_send 94 = .ok (.ireturn, 1) := by decide +kernel
theorem dX8_send_95 : decode cX8_send 95 = .ok (.aload_n 0, 1) := by decide +kernel
theorem dX8_send_96 : decode cX8_send 96 = .ok (.aload_n 0, 1) := by decide +kernel
theorem dX8_send_97 : decode cX8_send 97 = .ok (.getfield 21, 3) := by decide +kernel
theorem dX8_send_100 : decode cX8_send 100 = .ok (.iload_n 1, 1) := by decide +kernel
theorem dX8_send_101 : decode cX8_send 101 = .ok (.iaload, 1) := by decide +kernel
theorem dX8_send_102 : decode cX8_send 102 = .ok (.putfield 72, 3) := by decide +kernel
theorem dX8_send_105 : decode cX8_send 105 = .ok (.aload_n 0, 1) := by decide +kernel
theorem dX8_send_106 : decode cX8_send 106 = .ok (.iload_n 1, 1) := by decide +kernel
theorem dX8_send_107 : decode cX8_send 107 = .ok (.iconst 1, 1) := by decide +kernel
theorem dX8_send_108 : decode cX8_send 108 = .ok (.invokevirtual 65, 3) := by decide +kernel
theorem dX8_send_111 : decode cX8_send 111 = .ok (.ifCond .eq 7, 3) := by decide +kernel
theorem dX8_send_114 : decode cX8_send 114 = .ok (.iconst 0, 1) := by decide +kernel
theorem dX8_send_115 : decode cX8_send 115 = .ok (.goto 4, 3) := by decide +kernel
theorem dX8_send_118 : decode cX8_send 118 = .ok (.iconst 3, 1) := by decide +kernel
theorem dX8_send_119 : decode cX8_send 119 = .ok (.ireturn, 1) := by decide +kernel
theorem dX8_send_120 : decode cX8_send 120 = .ok (.aload_n 0, 1) := by decide +kernel
theorem dX8_send_121 : decode cX8_send 121 = .ok (.aload_n 0, 1) := by decide +kernel
theorem dX8_send_122 : decode cX8_send 122 = .ok (.getfield 18, 3) := by decide +kernel
theorem dX8_send_125 : decode cX8_send 125 = .ok (.iload_n 1, 1) := by decide +kernel
theorem dX8_send_126 : decode cX8_send 126 = .ok (.iaload, 1) := by decide +kernel
theorem dX8_send_127 : decode cX8_send 127 = .ok (.putfield 72, 3) := by decide +kernel
theorem dX8_send_130 : decode cX8_send 130 = .ok (.aload_n 0, 1) := by decide +kernel
theorem dX8_send_131 : decode cX8_send 131 = .ok (.getfield 18, 3) := by decide +kernel
theorem dX8_send_134 : decode cX8_send 134 = .ok (.iload_n 1, 1) := by decide +kernel
theorem dX8_send_135 : decode cX8_send 135 = .ok (.iload_n 3, 1) := by decide +kernel
theorem dX8_send_136 : decode cX8_send 136 = .ok (.iastore, 1) := by decide +kernel
theorem dX8_send_137 : decode cX8_send 137 = .ok (.iconst 0, 1) := by decide +kernel
theorem dX8_send_138 : decode cX8_send 138 = .ok (.ireturn, 1) := by decide +kernel
theorem dX8_send_139 : decode cX8_send 139 = .ok (.aload_n 0, 1) := by decide +kernel
theorem dX8_send_140 : decode cX8_send 140 = .ok (.iload_n 1, 1) := by decide +kernel
theorem dX8_send_141 : decode cX8_send 141 = .ok (.iconst 1, 1) := by decide +kernel
theorem dX8_send_142 : decode cX8_send 142 = .ok (.iload_n 3, 1) := by decide +kernel
theorem dX8_send_143 : decode cX8_send 143 = .ok (.invokevirtual 84, 3) := by decide +kernel
theorem dX8_send_146 : decode cX8_send 146 = .ok (.ireturn, 1) := by decide +kernel
theorem dX8_send_147 : decode cX8_send 147 = .ok (.aload_n 0, 1) := by decide +kernel
theorem dX8_send_148 : decode cX8_send 148 = .ok (.iload_n 1, 1) := by decide +kernel
theorem dX8_send_149 : decode cX8_send 149 = .ok (.iconst 5, 1) := by decide +kernel
theorem dX8_send_150 : decode cX8_send 150 = .ok (.iload_n 3, 1) := by decide +kernel
theorem dX8_send_151 : decode cX8_send 151 = .ok (.invokevirtual 84, 3) := by decide +kernel
theorem dX8_send_154 : decode cX8_send 154 = .ok (.ireturn, 1) := by decide +kernel
theorem dX8_weight_0 : decode cX8_weight 0 = .ok (.iconst 2, 1) := by decide +kernel
theorem dX8_weight_1 : decode cX8_weight 1 = .ok (.aload_n 0, 1) := by decide +kernel
theorem dX8_weight_2 : decode cX8_weight 2 = .ok (.getfield 15, 3) := by decide +kernel
theorem dX8_weight_5 : decode cX8_weight 5 = .ok (.iload_n 1, 1) := by decide +kernel
theorem dX8_weight_6 : decode cX8_weight 6 = .ok (.iaload, 1) := by decide +kernel
theorem dX8_weight_7 : decode cX8_weight 7 = .ok (.iadd, 1) := by decide +kernel
theorem dX8_weight_8 : decode cX8_weight 8 = .ok (.istore_n 2, 1) := by decide +kernel
theorem dX8_weight_9 : decode cX8_weight 9 = .ok (.aload_n 0, 1) := by decide +kernel
theorem dX8_weight_10 : decode cX8_weight 10 = .ok (.iload_n 1, 1) := by decide +kernel
theorem dX8_weight_11 : decode cX8_weight 11 = .ok (.iconst 1, 1) := by decide +kernel
theorem dX8_weight_12 : decode cX8_weight 12 = .ok (.invokevirtual 65, 3) := by decide +kernel
theorem dX8_weight_15 : decode cX8_weight 15 = .ok (.ifCond .eq 7, 3) := by decide +kernel
theorem dX8_weight_18 : decode cX8_weight 18 = .ok (.iload_n 2, 1) := by decide +kernel
theorem dX8_weight_19 : decode cX8_weight 19 = .ok (.iconst 2, 1) := by decide +kernel
theorem dX8_weight_20 : decode cX8_weight 20 = .ok (.imul, 1) := by decide +kernel
theorem dX8_weight_21 : decode cX8_weight 21 = .ok (.istore_n 2, 1) := by decide +kernel
theorem dX8_weight_22 : decode cX8_weight 22 = .ok (.aload_n 0, 1) := by decide +kernel
theorem dX8_weight_23 : decode cX8_weight 23 = .ok (.iload_n 1, 1) := by decide +kernel
theorem dX8_weight_24 : decode cX8_weight 24 = .ok (.iconst 3, 1) := by decide +kernel
theorem dX8_weight_25 : decode cX8_weight 25 = .ok (.invokevirtual 65, 3) := by decide +kernel
theorem dX8_weight_28 : decode cX8_weight 28 = .ok (.ifCond .eq 6, 3) := by decide +kernel
theorem dX8_weight_31 : decode cX8_weight 31 = .ok (.iinc 2 1, 3) := by decide +kernel
theorem dX8_weight_34 : decode cX8_weight 34 = .ok (.aload_n 0, 1) := by decide +kernel
theorem dX8_weight_35 : decode cX8_weight 35 = .ok (.iload_n 1, 1) := by decide +kernel
theorem dX8_weight_36 : decode cX8_weight 36 = .ok (.iconst 5, 1) := by decide +kernel
theorem dX8_weight_37 : decode cX8_weight 37 = .ok (.invokevirtual 65, 3) := by decide +kernel
theorem dX8_weight_40 : decode cX8_weight 40 = .ok (.ifCond .eq 14, 3) := by decide +kernel
theorem dX8_weight_43 : decode cX8_weight 43 = .ok (.iload_n 2, 1) := by decide +kernel
theorem dX8_weight_44 : decode cX8_weight 44 = .ok (.aload_n 0, 1) := by decide +kernel
theorem dX8_weight_45 : decode cX8_weight 45 = .ok (.getfield 21, 3) := by decide +kernel
theorem dX8_weight_48 : decode cX8_weight 48 = .ok (.iload_n 1, 1) := by decide +kernel
theorem dX8_weight_49 : decode cX8_weight 49 = .ok (.iaload, 1) := by decide +kernel
theorem dX8_weight_50 : decode cX8_weight 50 = .ok (.isub, 1) := by decide +kernel
theorem dX8_weight_51 : decode cX8_weight 51 = .ok (.goto 4, 3) := by decide +kernel
theorem dX8_weight_54 : decode cX8_weight 54 = .ok (.iload_n 2, 1) := by decide +kernel
theorem dX8_weight_55 : decode cX8_weight 55 = .ok (.ireturn, 1) := by decide +kernel
theorem dX8_load_0 : decode cX8_load 0 = .ok (.aload_n 0, 1) := by decide +kernel
theorem dX8_load_1 : decode cX8_load 1 = .ok (.iload_n 1, 1) := by decide +kernel
theorem dX8_load_2 : decode cX8_load 2 = .ok (.iconst 2, 1) := by decide +kernel
theorem dX8_load_3 : decode cX8_load 3 = .ok (.invokevirtual 65, 3) := by decide +kernel
theorem dX8_load_6 : decode cX8_load 6 = .ok (.ifCond .eq 13, 3) := by decide +kernel
theorem dX8_load_9 : decode cX8_load 9 = .ok (.aload_n 0, 1) := by decide +kernel
theorem dX8_load_10 : decode cX8_load 10 = .ok (.getfield 21, 3) := by decide +kernel
theorem dX8_load_13 : decode cX8_load 13 = .ok (.iload_n 1, 1) := by decide +kernel
theorem dX8_load_14 : decode cX8_load 14 = .ok (.dup2, 1) := by decide +kernel
theorem dX8_load_15 : decode cX8_load 15 = .ok (.iaload, 1) := by decide +kernel
theorem dX8_load_16 : decode cX8_load 16 = .ok (.iconst 1, 1) := by decide +kernel
theorem dX8_load_17 : decode cX8_load 17 = .ok (.iadd, 1) := by decide +kernel
theorem dX8_load_18 : decode cX8_load 18 = .ok (.iastore, 1) := by decide +kernel
theorem dX8_load_19 : decode cX8_load 19 = .ok (.aload_n 0, 1) := by decide +kernel
theorem dX8_load_20 : decode cX8_load 20 = .ok (.iload_n 1, 1) := by decide +kernel
theorem dX8_load_21 : decode cX8_load 21 = .ok (.iconst 1, 1) := by decide +kernel
theorem dX8_load_22 : decode cX8_load 22 = .ok (.invokevirtual 65, 3) := by decide +kernel
theorem dX8_load_25 : decode cX8_load 25 = .ok (.ifCond .eq 19, 3) := by decide +kernel
theorem dX8_load_28 : decode cX8_load 28 = .ok (.aload_n 0, 1) := by decide +kernel
theorem dX8_load_29 : decode cX8_load 29 = .ok (.getfield 15, 3) := by decide +kernel
theorem dX8_load_32 : decode cX8_load 32 = .ok (.iload_n 1, 1) := by decide +kernel
theorem dX8_load_33 : decode cX8_load 33 = .ok (.iaload, 1) := by decide +kernel
theorem dX8_load_34 : decode cX8_load 34 = .ok (.iload_n 2, 1) := by decide +kernel
theorem dX8_load_35 : decode cX8_load 35 = .ok (.iadd, 1) := by decide +kernel
theorem dX8_load_36 : decode cX8_load 36 = .ok (.bipush 9, 2) := by decide +kernel
theorem dX8_load_38 : decode cX8_load 38 = .ok (.if_icmp .le 6, 3) := by decide +kernel
theorem dX8_load_41 : decode cX8_load 41 = .ok (.bipush 11, 2) := by decide +kernel
theorem dX8_load_43 : decode cX8_load 43 = .ok (.ireturn, 1) := by decide +kernel
theorem dX8_load_44 : decode cX8_load 44 = .ok (.aload_n 0, 1) := by decide +kernel
theorem dX8_load_45 : decode cX8_load 45 = .ok (.getfield 15, 3) := by decide +kernel
theorem dX8_load_48 : decode cX8_load 48 = .ok (.iload_n 1, 1) := by decide +kernel
theorem dX8_load_49 : decode cX8_load 49 = .ok (.dup2, 1) := by decide +kernel
theorem dX8_load_50 : decode cX8_load 50 = .ok (.iaload, 1) := by decide +kernel
theorem dX8_load_51 : decode cX8_load 51 = .ok (.iload_n 2, 1) := by decide +kernel
theorem dX8_load_52 : decode cX8_load 52 = .ok (.iadd, 1) := by decide +kernel
theorem dX8_load_53 : decode cX8_load 53 = .ok (.iastore, 1) := by decide +kernel
theorem dX8_load_54 : decode cX8_load 54 = .ok (.aload_n 0, 1) := by decide +kernel
theorem dX8_load_55 : decode cX8_load 55 = .ok (.iload_n 1, 1) := by decide +kernel
theorem dX8_load_56 : decode cX8_load 56 = .ok (.iconst 4, 1) := by decide +kernel
theorem dX8_load_57 : decode cX8_load 57 = .ok (.invokevirtual 65, 3) := by decide +kernel
theorem dX8_load_60 : decode cX8_load 60 = .ok (.ifCond .eq 10, 3) := by decide +kernel
theorem dX8_load_63 : decode cX8_load 63 = .ok (.aload_n 0, 1) := by decide +kernel
theorem dX8_load_64 : decode cX8_load 64 = .ok (.getfield 18, 3) := by decide +kernel
theorem dX8_load_67 : decode cX8_load 67 = .ok (.iload_n 1, 1) := by decide +kernel
theorem dX8_load_68 : decode cX8_load 68 = .ok (.iload_n 2, 1) := by decide +kernel
theorem dX8_load_69 : decode cX8_load 69 = .ok (.iastore, 1) := by decide +kernel
theorem dX8_load_70 : decode cX8_load 70 = .ok (.aload_n 0, 1) := by decide +kernel
theorem dX8_load_71 : decode cX8_load 71 = .ok (.aload_n 0, 1) := by decide +kernel
theorem dX8_load_72 : decode cX8_load 72 = .ok (.iload_n 1, 1) := by decide +kernel
theorem dX8_load_73 : decode cX8_load 73 = .ok (.iconst 5, 1) := by decide +kernel
theorem dX8_load_74 : decode cX8_load 74 = .ok (.invokevirtual 65, 3) := by decide +kernel
theorem dX8_load_77 : decode cX8_load 77 = .ok (.ifCond .eq 12, 3) := by decide +kernel
theorem dX8_load_80 : decode cX8_load 80 = .ok (.aload_n 0, 1) := by decide +kernel
theorem dX8_load_81 : decode cX8_load 81 = .ok (.getfield 18, 3) := by decide +kernel
theorem dX8_load_84 : decode cX8_load 84 = .ok (.iload_n 1, 1) := by decide +kernel
theorem dX8_load_85 : decode cX8_load 85 = .ok (.iaload, 1) := by decide +kernel
theorem dX8_load_86 : decode cX8_load 86 = .ok (.goto 9, 3) := by decide +kernel
theorem dX8_load_89 : decode cX8_load 89 = .ok (.aload_n 0, 1) := by decide +kernel
theorem dX8_load_90 : decode cX8_load 90 = .ok (.getfield 15, 3) := by decide +kernel
theorem dX8_load_93 : decode cX8_load 93 = .ok (.iload_n 1, 1) := by decide +kernel
theorem dX8_load_94 : decode cX8_load 94 = .ok (.iaload, 1) := by decide +kernel
theorem dX8_load_95 : decode cX8_load 95 = .ok (.putfield 72, 3) := by decide +kernel
theorem dX8_load_98 : decode cX8_load 98 = .ok (.iconst 0, 1) := by decide +kernel
theorem dX8_load_99 : decode cX8_load 99 = .ok (.ireturn, 1) := by decide +kernel
theorem dX8_glow_0 : decode cX8_glow 0 = .ok (.aload_n 0, 1) := by decide +kernel
theorem dX8_glow_1 : decode cX8_glow 1 = .ok (.iload_n 1, 1) := by decide +kernel
theorem dX8_glow_2 : decode cX8_glow 2 = .ok (.iconst 4, 1) := by decide +kernel
theorem dX8_glow_3 : decode cX8_glow 3 = .ok (.invokevirtual 65, 3) := by decide +kernel
theorem dX8_glow_6 : decode cX8_glow 6 = .ok (.ifCond .ne 5, 3) := by decide +kernel
theorem dX8_glow_9 : decode cX8_glow 9 = .ok (.iconst 3, 1) := by decide +kernel
theorem dX8_glow_10 : decode cX8_glow 10 = .ok (.ireturn, 1) := by decide +kernel
theorem dX8_glow_11 : decode cX8_glow 11 = .ok (.aload_n 0, 1) := by decide +kernel
theorem dX8_glow_12 : decode cX8_glow 12 = .ok (.aload_n 0, 1) := by decide +kernel
theorem dX8_glow_13 : decode cX8_glow 13 = .ok (.iload_n 1, 1) := by decide +kernel
theorem dX8_glow_14 : decode cX8_glow 14 = .ok (.iconst 5, 1) := by decide +kernel
theorem dX8_glow_15 : decode cX8_glow 15 = .ok (.invokevirtual 65, 3) := by decide +kernel
theorem dX8_glow_18 : decode cX8_glow 18 = .ok (.ifCond .eq 14, 3) := by decide +kernel
theorem dX8_glow_21 : decode cX8_glow 21 = .ok (.iconst 3, 1) := by decide +kernel
theorem dX8_glow_22 : decode cX8_glow 22 = .ok (.aload_n 0, 1) := by decide +kernel
theorem dX8_glow_23 : decode cX8_glow 23 = .ok (.getfield 15, 3) := by decide +kernel
theorem dX8_glow_26 : decode cX8_glow 26 = .ok (.iload_n 1, 1) := by decide +kernel
theorem dX8_glow_27 : decode cX8_glow 27 = .ok (.iaload, 1) := by decide +kernel
theorem dX8_glow_28 : decode cX8_glow 28 = .ok (.imul, 1) := by decide +kernel
theorem dX8_glow_29 : decode cX8_glow 29 = .ok (.goto 6, 3) := by decide +kernel
theorem dX8_glow_32 : decode cX8_glow 32 = .ok (.iconst 5, 1) := by decide +kernel
theorem dX8_glow_33 : decode cX8_glow 33 = .ok (.iload_n 2, 1) := by decide +kernel
theorem dX8_glow_34 : decode cX8_glow 34 = .ok (.iadd, 1) := by decide +kernel
theorem dX8_glow_35 : decode cX8_glow 35 = .ok (.putfield 72, 3) := by decide +kernel
theorem dX8_glow_38 : decode cX8_glow 38 = .ok (.iconst 0, 1) := by decide +kernel
theorem dX8_glow_39 : decode cX8_glow 39 = .ok (.ireturn, 1) := by decide +kernel
theorem dX8_openUp_0 : decode cX8_openUp 0 = .ok (.aload_n 0, 1) := by decide +kernel
theorem dX8_openUp_1 : decode cX8_openUp 1 = .ok (.iload_n 1, 1) := by decide +kernel
theorem dX8_openUp_2 : decode cX8_openUp 2 = .ok (.iconst 1, 1) := by decide +kernel
theorem dX8_openUp_3 : decode cX8_openUp 3 = .ok (.invokevirtual 65, 3) := by decide +kernel
theorem dX8_openUp_6 : decode cX8_openUp 6 = .ok (.ifCond .ne 6, 3) := by decide +kernel
theorem dX8_openUp_9 : decode cX8_openUp 9 = .ok (.bipush 12, 2) := by decide +kernel
theorem dX8_openUp_11 : decode cX8_openUp 11 = .ok (.ireturn, 1) := by decide +kernel
theorem dX8_openUp_12 : decode cX8_openUp 12 = .ok (.aload_n 0, 1) := by decide +kernel
theorem dX8_openUp_13 : decode cX8_openUp 13 = .ok (.aload_n 0, 1) := by decide +kernel
theorem dX8_openUp_14 : decode cX8_openUp 14 = .ok (.iload_n 1, 1) := by decide +kernel
theorem dX8_openUp_15 : decode cX8_openUp 15 = .ok (.iconst 2, 1) := by decide +kernel
theorem dX8_openUp_16 : decode cX8_openUp 16 = .ok (.invokevirtual 65, 3) := by decide +kernel
theorem dX8_openUp_19 : decode cX8_openUp 19 = .ok (.ifCond .eq 15, 3) := by decide +kernel
theorem dX8_openUp_22 : decode cX8_openUp 22 = .ok (.bipush 100, 2) := by decide +kernel
theorem dX8_openUp_24 : decode cX8_openUp 24 = .ok (.aload_n 0, 1) := by decide +kernel
theorem dX8_openUp_25 : decode cX8_openUp 25 = .ok (.getfield 21, 3) := by decide +kernel
theorem dX8_openUp_28 : decode cX8_openUp 28 = .ok (.iload_n 1, 1) := by decide +kernel
theorem dX8_openUp_29 : decode cX8_openUp 29 = .ok (.iaload, 1) := by decide +kernel
theorem dX8_openUp_30 : decode cX8_openUp 30 = .ok (.iadd, 1) := by decide +kernel
theorem dX8_openUp_31 : decode cX8_openUp 31 = .ok (.goto 9, 3) := by decide +kernel
theorem dX8_openUp_34 : decode cX8_openUp 34 = .ok (.aload_n 0, 1) := by decide +kernel
theorem dX8_openUp_35 : decode cX8_openUp 35 = .ok (.getfield 21, 3) := by decide +kernel
theorem dX8_openUp_38 : decode cX8_openUp 38 = .ok (.iload_n 1, 1) := by decide +kernel
theorem dX8_openUp_39 : decode cX8_openUp 39 = .ok (.iaload, 1) := by decide +kernel
theorem dX8_openUp_40 : decode cX8_openUp 40 = .ok (.putfield 72, 3) := by decide +kernel
theorem dX8_openUp_43 : decode cX8_openUp 43 = .ok (.iconst 0, 1) := by decide +kernel
theorem dX8_openUp_44 : decode cX8_openUp 44 = .ok (.ireturn, 1) := by decide +kernel
theorem dX8_setOwnMark_0 : decode cX8_setOwnMark 0 = .ok (.aload_n 0, 1) := by decide +kernel
theorem dX8_setOwnMark_1 : decode cX8_setOwnMark 1 = .ok (.iload_n 1, 1) := by decide +kernel
theorem dX8_setOwnMark_2 : decode cX8_setOwnMark 2 = .ok (.iload_n 2, 1) := by decide +kernel
theorem dX8_setOwnMark_3 : decode cX8_setOwnMark 3 = .ok (.invokevirtual 65, 3) := by decide +kernel
theorem dX8_setOwnMark_6 : decode cX8_setOwnMark 6 = .ok (.ifCond .ne 5, 3) := by decide +kernel
theorem dX8_setOwnMark_9 : decode cX8_setOwnMark 9 = .ok (.iconst 3, 1) := by decide +kernel
theorem dX8_setOwnMark_10 : decode cX8_setOwnMark 10 = .ok (.ireturn, 1) := by decide +kernel
theorem dX8_setOwnMark_11 : decode cX8_setOwnMark 11 = .ok (.aload_n 0, 1) := by decide +kernel
theorem dX8_setOwnMark_12 : decode cX8_setOwnMark 12 = .ok (.aload_n 0, 1) := by decide +kernel
theorem dX8_setOwnMark_13 : decode cX8_setOwnMark 13 = .ok (.getfield 21, 3) := by decide +kernel
theorem dX8_setOwnMark_16 : decode cX8_setOwnMark 16 = .ok (.iload_n 1, 1) := by decide +kernel
theorem dX8_setOwnMark_17 : decode cX8_setOwnMark 17 = .ok (.iaload, 1) := by decide +kernel
theorem dX8_setOwnMark_18 : decode cX8_setOwnMark 18 = .ok (.putfield 72, 3) := by decide +kernel
theorem dX8_setOwnMark_21 : decode cX8_setOwnMark 21 = .ok (.aload_n 0, 1) := by decide +kernel
theorem dX8_setOwnMark_22 : decode cX8_setOwnMark 22 = .ok (.getfield 21, 3) := by decide +kernel
theorem dX8_setOwnMark_25 : decode cX8_setOwnMark 25 = .ok (.iload_n 1, 1) := by decide +kernel
theorem dX8_setOwnMark_26 : decode cX8_setOwnMark 26 = .ok (.iload_n 3, 1) := by decide +kernel
theorem dX8_setOwnMark_27 : decode cX8_setOwnMark 27 = .ok (.iastore, 1) := by decide +kernel
theorem dX8_setOwnMark_28 : decode cX8_setOwnMark 28 = .ok (.iconst 0, 1) := by decide +kernel
theorem dX8_setOwnMark_29 : decode cX8_setOwnMark 29 = .ok (.ireturn, 1) := by decide +kernel
theorem dX8_copyFirst_0 : decode cX8_copyFirst 0 = .ok (.aload_n 1, 1) := by decide +kernel
theorem dX8_copyFirst_1 : decode cX8_copyFirst 1 = .ok (.getfield 15, 3) := by decide +kernel
theorem dX8_copyFirst_4 : decode cX8_copyFirst 4 = .ok (.iconst 0, 1) := by decide +kernel
theorem dX8_copyFirst_5 : decode cX8_copyFirst 5 = .ok (.aload_n 0, 1) := by decide +kernel
theorem dX8_copyFirst_6 : decode cX8_copyFirst 6 = .ok (.getfield 15, 3) := by decide +kernel
theorem dX8_copyFirst_9 : decode cX8_copyFirst 9 = .ok (.iconst 0, 1) := by decide +kernel
theorem dX8_copyFirst_10 : decode cX8_copyFirst 10 = .ok (.iload_n 2, 1) := by decide +kernel
theorem dX8_copyFirst_11 : decode cX8_copyFirst 11 = .ok (.invokestatic 88, 3) := by decide +kernel
theorem dX8_copyFirst_14 : decode cX8_copyFirst 14 = .ok (.aload_n 1, 1) := by decide +kernel
theorem dX8_copyFirst_15 : decode cX8_copyFirst 15 = .ok (.getfield 18, 3) := by decide +kernel
theorem dX8_copyFirst_18 : decode cX8_copyFirst 18 = .ok (.iconst 0, 1) := by decide +kernel
theorem dX8_copyFirst_19 : decode cX8_copyFirst 19 = .ok (.aload_n 0, 1) := by decide +kernel
theorem dX8_copyFirst_20 : decode cX8_copyFirst 20 = .ok (.getfield 18, 3) := by decide +kernel
theorem dX8_copyFirst_23 : decode cX8_copyFirst 23 = .ok (.iconst 0, 1) := by decide +kernel
theorem dX8_copyFirst_24 : decode cX8_copyFirst 24 = .ok (.iload_n 2, 1) := by decide +kernel
theorem dX8_copyFirst_25 : decode cX8_copyFirst 25 = .ok (.invokestatic 88, 3) := by decide +kernel
theorem dX8_copyFirst_28 : decode cX8_copyFirst 28 = .ok (.aload_n 1, 1) := by decide +kernel
theorem dX8_copyFirst_29 : decode cX8_copyFirst 29 = .ok (.getfield 21, 3) := by decide +kernel
theorem dX8_copyFirst_32 : decode cX8_copyFirst 32 = .ok (.iconst 0, 1) := by decide +kernel
theorem dX8_copyFirst_33 : decode cX8_copyFirst 33 = .ok (.aload_n 0, 1) := by decide +kernel
theorem dX8_copyFirst_34 : decode cX8_copyFirst 34 = .ok (.getfield 21, 3) := by decide +kernel
theorem dX8_copyFirst_37 : decode cX8_copyFirst 37 = .ok (.iconst 0, 1) := by decide +kernel
theorem dX8_copyFirst_38 : decode cX8_copyFirst 38 = .ok (.iload_n 2, 1) := by decide +kernel
theorem dX8_copyFirst_39 : decode cX8_copyFirst 39 = .ok (.invokestatic 88, 3) := by decide +kernel
theorem dX8_copyFirst_42 : decode cX8_copyFirst 42 = .ok (.aload_n 1, 1) := by decide +kernel
theorem dX8_copyFirst_43 : decode cX8_copyFirst 43 = .ok (.getfield 24, 3) := by decide +kernel
theorem dX8_copyFirst_46 : decode cX8_copyFirst 46 = .ok (.iconst 0, 1) := by decide +kernel
theorem dX8_copyFirst_47 : decode cX8_copyFirst 47 = .ok (.aload_n 0, 1) := by decide +kernel
theorem dX8_copyFirst_48 : decode cX8_copyFirst 48 = .ok (.getfield 24, 3) := by decide +kernel
theorem dX8_copyFirst_51 : decode cX8_copyFirst 51 = .ok (.iconst 0, 1) := by decide +kernel
theorem dX8_copyFirst_52 : decode cX8_copyFirst 52 = .ok (.iload_n 2, 1) := by decide +kernel
theorem dX8_copyFirst_53 : decode cX8_copyFirst 53 = .ok (.iconst 4, 1) := by decide +kernel
theorem dX8_copyFirst_54 : decode cX8_copyFirst 54 = .ok (.imul, 1) := by decide +kernel
theorem dX8_copyFirst_55 : decode cX8_copyFirst 55 = .ok (.invokestatic 88, 3) := by decide +kernel
theorem dX8_copyFirst_58 : decode cX8_copyFirst 58 = .ok (.return_, 1) := by decide +kernel
theorem dX9_init_0 : decode cX9_init 0 = .ok (.aload_n 0, 1) := by decide +kernel
theorem dX9_init_1 : decode cX9_init 1 = .ok (.invokespecial 1, 3) := by decide +kernel
theorem dX9_init_4 : decode cX9_init 4 = .ok (.aload_n 0, 1) := by decide +kernel
theorem dX9_init_5 : decode cX9_init 5 = .ok (.new 7, 3) := by decide +kernel
theorem dX9_init_8 : decode cX9_init 8 = .ok (.dup, 1) := by decide +kernel
theorem dX9_init_9 : decode cX9_init 9 = .ok (.invokespecial 9, 3) := by decide +kernel
theorem dX9_init_12 : decode cX9_init 12 = .ok (.putfield 10, 3) := by decide +kernel
theorem dX9_init_15 : decode cX9_init 15 = .ok (.return_, 1) := by decide +kernel
theorem dX9_row_0 : decode cX9_row 0 = .ok (.iload_n 1, 1) := by decide +kernel
theorem dX9_row_1 : decode cX9_row 1 = .ok (.invokestatic 16, 3) := by decide +kernel
theorem dX9_row_4 : decode cX9_row 4 = .ok (.ifCond .eq 10, 3) := by decide +kernel
theorem dX9_row_7 : decode cX9_row 7 = .ok (.iload_n 2, 1) := by decide +kernel
theorem dX9_row_8 : decode cX9_row 8 = .ok (.invokestatic 20, 3) := by decide +kernel
theorem dX9_row_11 : decode cX9_row 11 = .ok (.ifCond .ne 6, 3) := by decide +kernel
theorem dX9_row_14 : decode cX9_row 14 = .ok (.ldc 23, 2) := by decide +kernel
theorem dX9_row_16 : decode cX9_row 16 = .ok (.ireturn, 1) := by decide +kernel
theorem dX9_row_17 : decode cX9_row 17 = .ok (.aload_n 0, 1) := by decide +kernel
theorem dX9_row_18 : decode cX9_row 18 = .ok (.getfield 10, 3) := by decide +kernel
theorem dX9_row_21 : decode cX9_row 21 = .ok (.getfield 24, 3) := by decide +kernel
theorem dX9_row_24 : decode cX9_row 24 = .ok (.iload_n 1, 1) := by decide +kernel
theorem dX9_row_25 : decode cX9_row 25 = .ok (.iload_n 2, 1) := by decide +kernel
theorem dX9_row_26 : decode cX9_row 26 = .ok (.iload_n 3, 1) := by decide +kernel
theorem dX9_row_27 : decode cX9_row 27 = .ok (.i2l, 1) := by decide +kernel
theorem dX9_row_28 : decode cX9_row 28 = .ok (.invokevirtual 28, 3) := by decide +kernel
theorem dX9_row_31 : decode cX9_row 31 = .ok (.istore 4, 2) := by decide +kernel
theorem dX9_row_33 : decode cX9_row 33 = .ok (.iload 4, 2) := by decide +kernel
theorem dX9_row_35 : decode cX9_row 35 = .ok (.ifCond .ne 7, 3) := by decide +kernel
theorem dX9_row_38 : decode cX9_row 38 = .ok (.iload_n 3, 1) := by decide +kernel
theorem dX9_row_39 : decode cX9_row 39 = .ok (.goto 8, 3) := by decide +kernel
theorem dX9_row_42 : decode cX9_row 42 = .ok (.bipush (-10), 2) := by decide +kernel
theorem dX9_row_44 : decode cX9_row 44 = .ok (.iload 4, 2) := by decide +kernel
theorem dX9_row_46 : decode cX9_row 46 = .ok (.isub, 1) := by decide +kernel
theorem dX9_row_47 : decode cX9_row 47 = .ok (.ireturn, 1) := by decide +kernel
theorem dX9_miss_0 : decode cX9_miss 0 = .ok (.iload_n 1, 1) := by decide +kernel
theorem dX9_miss_1 : decode cX9_miss 1 = .ok (.invokestatic 16, 3) := by decide +kernel
theorem dX9_miss_4 : decode cX9_miss 4 = .ok (.ifCond .ne 6, 3) := by decide +kernel
theorem dX9_miss_7 : decode cX9_miss 7 = .ok (.ldc 23, 2) := by decide +kernel
theorem dX9_miss_9 : decode cX9_miss 9 = .ok (.ireturn, 1) := by decide +kernel
theorem dX9_miss_10 : decode cX9_miss 10 = .ok (.aload_n 0, 1) := by decide +kernel
theorem dX9_miss_11 : decode cX9_miss 11 = .ok (.getfield 10, 3) := by decide +kernel
theorem dX9_miss_14 : decode cX9_miss 14 = .ok (.getfield 24, 3) := by decide +kernel
theorem dX9_miss_17 : decode cX9_miss 17 = .ok (.iload_n 1, 1) := by decide +kernel
theorem dX9_miss_18 : decode cX9_miss 18 = .ok (.invokevirtual 34, 3) := by decide +kernel
theorem dX9_miss_21 : decode cX9_miss 21 = .ok (.ifCond .eq 7, 3) := by decide +kernel
theorem dX9_miss_24 : decode cX9_miss 24 = .ok (.iconst 1, 1) := by decide +kernel
theorem dX9_miss_25 : decode cX9_miss 25 = .ok (.goto 4, 3) := by decide +kernel
theorem dX9_miss_28 : decode cX9_miss 28 = .ok (.iconst 0, 1) := by decide +kernel
theorem dX9_miss_29 : decode cX9_miss 29 = .ok (.ireturn, 1) := by decide +kernel
theorem dX9_share_0 : decode cX9_share 0 = .ok (.iload_n 1, 1) := by decide +kernel
theorem dX9_share_1 : decode cX9_share 1 = .ok (.invokestatic 16, 3) := by decide +kernel
theorem dX9_share_4 : decode cX9_share 4 = .ok (.ifCond .eq 10, 3) := by decide +kernel
theorem dX9_share_7 : decode cX9_share 7 = .ok (.iload_n 2, 1) := by decide +kernel
theorem dX9_share_8 : decode cX9_share 8 = .ok (.invokestatic 16, 3) := by decide +kernel
theorem dX9_share_11 : decode cX9_share 11 = .ok (.ifCond .ne 6, 3) := by decide +kernel
theorem dX9_share_14 : decode cX9_share 14 = .ok (.ldc 23, 2) := by decide +kernel
theorem dX9_share_16 : decode cX9_share 16 = .ok (.ireturn, 1) := by decide +kernel
theorem dX9_share_17 : decode cX9_share 17 = .ok (.aload_n 0, 1) := by decide +kernel
theorem dX9_share_18 : decode cX9_share 18 = .ok (.getfield 10, 3) := by decide +kernel
theorem dX9_share_21 : decode cX9_share 21 = .ok (.getfield 24, 3) := by decide +kernel
theorem dX9_share_24 : decode cX9_share 24 = .ok (.iload_n 1, 1) := by decide +kernel
theorem dX9_share_25 : decode cX9_share 25 = .ok (.iload_n 2, 1) := by decide +kernel
theorem dX9_share_26 : decode cX9_share 26 = .ok (.invokevirtual 37, 3) := by decide +kernel
theorem dX9_share_29 : decode cX9_share 29 = .ok (.ifCond .eq 7, 3) := by decide +kernel
theorem dX9_share_32 : decode cX9_share 32 = .ok (.iconst 1, 1) := by decide +kernel
theorem dX9_share_33 : decode cX9_share 33 = .ok (.goto 4, 3) := by decide +kernel
theorem dX9_share_36 : decode cX9_share 36 = .ok (.iconst 0, 1) := by decide +kernel
theorem dX9_share_37 : decode cX9_share 37 = .ok (.ireturn, 1) := by decide +kernel
theorem dX9_put_0 : decode cX9_put 0 = .ok (.iload_n 1, 1) := by decide +kernel
theorem dX9_put_1 : decode cX9_put 1 = .ok (.invokestatic 16, 3) := by decide +kernel
theorem dX9_put_4 : decode cX9_put 4 = .ok (.ifCond .ne 6, 3) := by decide +kernel
theorem dX9_put_7 : decode cX9_put 7 = .ok (.ldc 23, 2) := by decide +kernel
theorem dX9_put_9 : decode cX9_put 9 = .ok (.ireturn, 1) := by decide +kernel
theorem dX9_put_10 : decode cX9_put 10 = .ok (.aload_n 0, 1) := by decide +kernel
theorem dX9_put_11 : decode cX9_put 11 = .ok (.getfield 10, 3) := by decide +kernel
theorem dX9_put_14 : decode cX9_put 14 = .ok (.getfield 24, 3) := by decide +kernel
theorem dX9_put_17 : decode cX9_put 17 = .ok (.iload_n 1, 1) := by decide +kernel
theorem dX9_put_18 : decode cX9_put 18 = .ok (.iload_n 2, 1) := by decide +kernel
theorem dX9_put_19 : decode cX9_put 19 = .ok (.i2l, 1) := by decide +kernel
theorem dX9_put_20 : decode cX9_put 20 = .ok (.invokevirtual 41, 3) := by decide +kernel
theorem dX9_put_23 : decode cX9_put 23 = .ok (.istore 5, 2) := by decide +kernel
theorem dX9_put_25 : decode cX9_put 25 = .ok (.iload 5, 2) := by decide +kernel
theorem dX9_put_27 : decode cX9_put 27 = .ok (.ifCond .eq 9, 3) := by decide +kernel
theorem dX9_put_30 : decode cX9_put 30 = .ok (.bipush (-10), 2) := by decide +kernel
theorem dX9_put_32 : decode cX9_put 32 = .ok (.iload 5, 2) := by decide +kernel
theorem dX9_put_34 : decode cX9_put 34 = .ok (.isub, 1) := by decide +kernel
theorem dX9_put_35 : decode cX9_put 35 = .ok (.ireturn, 1) := by decide +kernel
theorem dX9_put_36 : decode cX9_put 36 = .ok (.aload_n 0, 1) := by decide +kernel
theorem dX9_put_37 : decode cX9_put 37 = .ok (.getfield 10, 3) := by decide +kernel
theorem dX9_put_40 : decode cX9_put 40 = .ok (.getfield 24, 3) := by decide +kernel
theorem dX9_put_43 : decode cX9_put 43 = .ok (.iload_n 1, 1) := by decide +kernel
theorem dX9_put_44 : decode cX9_put 44 = .ok (.iload_n 2, 1) := by decide +kernel
theorem dX9_put_45 : decode cX9_put 45 = .ok (.i2l, 1) := by decide +kernel
theorem dX9_put_46 : decode cX9_put 46 = .ok (.lload_n 3, 1) := by decide +kernel
theorem dX9_put_47 : decode cX9_put 47 = .ok (.invokevirtual 45, 3) := by decide +kernel
theorem dX9_put_50 : decode cX9_put 50 = .ok (.iconst 1, 1) := by decide +kernel
theorem dX9_put_51 : decode cX9_put 51 = .ok (.ireturn, 1) := by decide +kernel
theorem dX9_item_0 : decode cX9_item 0 = .ok (.iload_n 1, 1) := by decide +kernel
theorem dX9_item_1 : decode cX9_item 1 = .ok (.invokestatic 16, 3) := by decide +kernel
theorem dX9_item_4 : decode cX9_item 4 = .ok (.ifCond .eq 19, 3) := by decide +kernel
theorem dX9_item_7 : decode cX9_item 7 = .ok (.aload_n 0, 1) := by decide +kernel
theorem dX9_item_8 : decode cX9_item 8 = .ok (.getfield 10, 3) := by decide +kernel
theorem dX9_item_11 : decode cX9_item 11 = .ok (.getfield 24, 3) := by decide +kernel
theorem dX9_item_14 : decode cX9_item 14 = .ok (.iload_n 1, 1) := by decide +kernel
theorem dX9_item_15 : decode cX9_item 15 = .ok (.iload_n 2, 1) := by decide +kernel
theorem dX9_item_16 : decode cX9_item 16 = .ok (.i2l, 1) := by decide +kernel
theorem dX9_item_17 : decode cX9_item 17 = .ok (.invokevirtual 41, 3) := by decide +kernel
theorem dX9_item_20 : decode cX9_item 20 = .ok (.ifCond .eq 5, 3) := by decide +kernel
theorem dX9_item_23 : decode cX9_item 23 = .ok (.lconst 0, 1) := by decide +kernel
theorem dX9_item_24 : decode cX9_item 24 = .ok (.lreturn, 1) := by decide +kernel
theorem dX9_item_25 : decode cX9_item 25 = .ok (.aload_n 0, 1) := by decide +kernel
theorem dX9_item_26 : decode cX9_item 26 = .ok (.getfield 10, 3) := by decide +kernel
theorem dX9_item_29 : decode cX9_item 29 = .ok (.getfield 24, 3) := by decide +kernel
theorem dX9_item_32 : decode cX9_item 32 = .ok (.iload_n 1, 1) := by decide +kernel
theorem dX9_item_33 : decode cX9_item 33 = .ok (.iload_n 2, 1) := by decide +kernel
theorem dX9_item_34 : decode cX9_item 34 = .ok (.i2l, 1) := by decide +kernel
theorem dX9_item_35 : decode cX9_item 35 = .ok (.invokevirtual 49, 3) := by decide +kernel
theorem dX9_item_38 : decode cX9_item 38 = .ok (.lreturn, 1) := by decide +kernel
theorem dX9_about_0 : decode cX9_about 0 = .ok (.iload_n 1, 1) := by decide +kernel
theorem dX9_about_1 : decode cX9_about 1 = .ok (.invokestatic 16, 3) := by decide +kernel
theorem dX9_about_4 : decode cX9_about 4 = .ok (.ifCond .ne 6, 3) := by decide +kernel
theorem dX9_about_7 : decode cX9_about 7 = .ok (.ldc 23, 2) := by decide +kernel
theorem dX9_about_9 : decode cX9_about 9 = .ok (.ireturn, 1) := by decide +kernel
theorem dX9_about_10 : decode cX9_about 10 = .ok (.iload_n 2, 1) := by decide +kernel
theorem dX9_about_11 : decode cX9_about 11 = .ok (.tableswitch 61 0 2 #[25, 37, 49], 25) := by decide +kernel
theorem dX9_about_36 : decode cX9_about 36 = .ok (.aload_n 0, 1) := by decide +kernel
theorem dX9_about_37 : decode cX9_about 37 = .ok (.getfield 10, 3) := by decide +kernel
theorem dX9_about_40 : decode cX9_about 40 = .ok (.getfield 24, 3) := by decide +kernel
theorem dX9_about_43 : decode cX9_about 43 = .ok (.iload_n 1, 1) := by decide +kernel
theorem dX9_about_44 : decode cX9_about 44 = .ok (.invokevirtual 53, 3) := by decide +kernel
theorem dX9_about_47 : decode cX9_about 47 = .ok (.ireturn, 1) := by decide +kernel
theorem dX9_about_48 : decode cX9_about 48 = .ok (.aload_n 0, 1) := by decide +kernel
theorem dX9_about_49 : decode cX9_about 49 = .ok (.getfield 10, 3) := by decide +kernel
theorem dX9_about_52 : decode cX9_about 52 = .ok (.getfield 24, 3) := by decide +kernel
theorem dX9_about_55 : decode cX9_about 55 = .ok (.iload_n 1, 1) := by decide +kernel
theorem dX9_about_56 : decode cX9_about 56 = .ok (.invokevirtual 57, 3) := by decide +kernel
theorem dX9_about_59 : decode cX9_about 59 = .ok (.ireturn, 1) := by decide +kernel
theorem dX9_about_60 : decode cX9_about 60 = .ok (.aload_n 0, 1) := by decide +kernel
theorem dX9_about_61 : decode cX9_about 61 = .ok (.getfield 10, 3) := by decide +kernel
theorem dX9_about_64 : decode cX9_about 64 = .ok (.getfield 24, 3) := by decide +kernel
theorem dX9_about_67 : decode cX9_about 67 = .ok (.iload_n 1, 1) := by decide +kernel
theorem dX9_about_68 : decode cX9_about 68 = .ok (.invokevirtual 60, 3) := by decide +kernel
theorem dX9_about_71 : decode cX9_about 71 = .ok (.ireturn, 1) := by decide +kernel
theorem dX9_about_72 : decode cX9_about 72 = .ok (.ldc 23, 2) := by decide +kernel
theorem dX9_about_74 : decode cX9_about 74 = .ok (.ireturn, 1) := by decide +kernel
theorem dX9_thing_0 : decode cX9_thing 0 = .ok (.iload_n 1, 1) := by decide +kernel
theorem dX9_thing_1 : decode cX9_thing 1 = .ok (.ifCond .lt 9, 3) := by decide +kernel
theorem dX9_thing_4 : decode cX9_thing 4 = .ok (.iload_n 1, 1) := by decide +kernel
theorem dX9_thing_5 : decode cX9_thing 5 = .ok (.bipush 6, 2) := by decide +kernel
theorem dX9_thing_7 : decode cX9_thing 7 = .ok (.if_icmp .lt 6, 3) := by decide +kernel
theorem dX9_thing_10 : decode cX9_thing 10 = .ok (.ldc 23, 2) := by decide +kernel
theorem dX9_thing_12 : decode cX9_thing 12 = .ok (.ireturn, 1) := by decide +kernel
theorem dX9_thing_13 : decode cX9_thing 13 = .ok (.aload_n 0, 1) := by decide +kernel
theorem dX9_thing_14 : decode cX9_thing 14 = .ok (.getfield 10, 3) := by decide +kernel
theorem dX9_thing_17 : decode cX9_thing 17 = .ok (.getfield 63, 3) := by decide +kernel
theorem dX9_thing_20 : decode cX9_thing 20 = .ok (.iload_n 1, 1) := by decide +kernel
theorem dX9_thing_21 : decode cX9_thing 21 = .ok (.invokevirtual 67, 3) := by decide +kernel
theorem dX9_thing_24 : decode cX9_thing 24 = .ok (.ireturn, 1) := by decide +kernel
theorem dX9_of_0 : decode cX9_of 0 = .ok (.aload_n 0, 1) := by decide +kernel
theorem dX9_of_1 : decode cX9_of 1 = .ok (.getfield 10, 3) := by decide +kernel
theorem dX9_of_4 : decode cX9_of 4 = .ok (.getfield 63, 3) := by decide +kernel
theorem dX9_of_7 : decode cX9_of 7 = .ok (.iload_n 1, 1) := by decide +kernel
theorem dX9_of_8 : decode cX9_of 8 = .ok (.i2l, 1) := by decide +kernel
theorem dX9_of_9 : decode cX9_of 9 = .ok (.invokevirtual 72, 3) := by decide +kernel
theorem dX9_of_12 : decode cX9_of 12 = .ok (.ifCond .eq 18, 3) := by decide +kernel
theorem dX9_of_15 : decode cX9_of 15 = .ok (.aload_n 0, 1) := by decide +kernel
theorem dX9_of_16 : decode cX9_of 16 = .ok (.getfield 10, 3) := by decide +kernel
theorem dX9_of_19 : decode cX9_of 19 = .ok (.getfield 63, 3) := by decide +kernel
theorem dX9_of_22 : decode cX9_of 22 = .ok (.iload_n 1, 1) := by decide +kernel
theorem dX9_of_23 : decode cX9_of 23 = .ok (.iload_n 2, 1) := by decide +kernel
theorem dX9_of_24 : decode cX9_of 24 = .ok (.invokevirtual 76, 3) := by decide +kernel
theorem dX9_of_27 : decode cX9_of 27 = .ok (.goto 4, 3) := by decide +kernel
theorem dX9_of_30 : decode cX9_of 30 = .ok (.iconst 0, 1) := by decide +kernel
theorem dX9_of_31 : decode cX9_of 31 = .ok (.ireturn, 1) := by decide +kernel
theorem dX9_routine_0 : decode cX9_routine 0 = .ok (.iload_n 1, 1) := by decide +kernel
theorem dX9_routine_1 : decode cX9_routine 1 = .ok (.iconst 1, 1) := by decide +kernel
theorem dX9_routine_2 : decode cX9_routine 2 = .ok (.if_icmp .lt 9, 3) := by decide +kernel
theorem dX9_routine_5 : decode cX9_routine 5 = .ok (.iload_n 1, 1) := by decide +kernel
theorem dX9_routine_6 : decode cX9_routine 6 = .ok (.bipush 6, 2) := by decide +kernel
theorem dX9_routine_8 : decode cX9_routine 8 = .ok (.if_icmp .le 6, 3) := by decide +kernel
theorem dX9_routine_11 : decode cX9_routine 11 = .ok (.ldc 23, 2) := by decide +kernel
theorem dX9_routine_13 : decode cX9_routine 13 = .ok (.ireturn, 1) := by decide +kernel
theorem dX9_routine_14 : decode cX9_routine 14 = .ok (.aload_n 0, 1) := by decide +kernel
theorem dX9_routine_15 : decode cX9_routine 15 = .ok (.getfield 10, 3) := by decide +kernel
theorem dX9_routine_18 : decode cX9_routine 18 = .ok (.iload_n 1, 1) := by decide +kernel
theorem dX9_routine_19 : decode cX9_routine 19 = .ok (.invokevirtual 80, 3) := by decide +kernel
theorem dX9_routine_22 : decode cX9_routine 22 = .ok (.ireturn, 1) := by decide +kernel
theorem dX9_op_0 : decode cX9_op 0 = .ok (.aload_n 0, 1) := by decide +kernel
theorem dX9_op_1 : decode cX9_op 1 = .ok (.getfield 10, 3) := by decide +kernel
theorem dX9_op_4 : decode cX9_op 4 = .ok (.iload_n 1, 1) := by decide +kernel
theorem dX9_op_5 : decode cX9_op 5 = .ok (.invokevirtual 83, 3) := by decide +kernel
theorem dX9_op_8 : decode cX9_op 8 = .ok (.astore 5, 2) := by decide +kernel
theorem dX9_op_10 : decode cX9_op 10 = .ok (.aload 5, 2) := by decide +kernel
theorem dX9_op_12 : decode cX9_op 12 = .ok (.ifnull 15, 3) := by decide +kernel
theorem dX9_op_15 : decode cX9_op 15 = .ok (.aload 5, 2) := by decide +kernel
theorem dX9_op_17 : decode cX9_op 17 = .ok (.iload_n 2, 1) := by decide +kernel
theorem dX9_op_18 : decode cX9_op 18 = .ok (.iload_n 3, 1) := by decide +kernel
theorem dX9_op_19 : decode cX9_op 19 = .ok (.iload 4, 2) := by decide +kernel
theorem dX9_op_21 : decode cX9_op 21 = .ok (.invokevirtual 87, 3) := by decide +kernel
theorem dX9_op_24 : decode cX9_op 24 = .ok (.ifCond .ne 6, 3) := by decide +kernel
theorem dX9_op_27 : decode cX9_op 27 = .ok (.ldc 23, 2) := by decide +kernel
theorem dX9_op_29 : decode cX9_op 29 = .ok (.ireturn, 1) := by decide +kernel
theorem dX9_op_30 : decode cX9_op 30 = .ok (.aload 5, 2) := by decide +kernel
theorem dX9_op_32 : decode cX9_op 32 = .ok (.iload_n 2, 1) := by decide +kernel
theorem dX9_op_33 : decode cX9_op 33 = .ok (.iload_n 3, 1) := by decide +kernel
theorem dX9_op_34 : decode cX9_op 34 = .ok (.iload 4, 2) := by decide +kernel
theorem dX9_op_36 : decode cX9_op 36 = .ok (.invokevirtual 93, 3) := by decide +kernel
theorem dX9_op_39 : decode cX9_op 39 = .ok (.ireturn, 1) := by decide +kernel
theorem dX9_guard_0 : decode cX9_guard 0 = .ok (.aload_n 0, 1) := by decide +kernel
theorem dX9_guard_1 : decode cX9_guard 1 = .ok (.getfield 10, 3) := by decide +kernel
theorem dX9_guard_4 : decode cX9_guard 4 = .ok (.iload_n 1, 1) := by decide +kernel
theorem dX9_guard_5 : decode cX9_guard 5 = .ok (.invokevirtual 83, 3) := by decide +kernel
theorem dX9_guard_8 : decode cX9_guard 8 = .ok (.astore 6, 2) := by decide +kernel
theorem dX9_guard_10 : decode cX9_guard 10 = .ok (.iload_n 2, 1) := by decide +kernel
theorem dX9_guard_11 : decode cX9_guard 11 = .ok (.ifCond .lt 18, 3) := by decide +kernel
theorem dX9_guard_14 : decode cX9_guard 14 = .ok (.iload_n 2, 1) := by decide +kernel
theorem dX9_guard_15 : decode cX9_guard 15 = .ok (.iload_n 3, 1) := by decide +kernel
theorem dX9_guard_16 : decode cX9_guard 16 = .ok (.if_icmp .ge 13, 3) := by decide +kernel
theorem dX9_guard_19 : decode cX9_guard 19 = .ok (.iload_n 3, 1) := by decide +kernel
theorem dX9_guard_20 : decode cX9_guard 20 = .ok (.bipush 30, 2) := by decide +kernel
theorem dX9_guard_22 : decode cX9_guard 22 = .ok (.if_icmp .gt 7, 3) := by decide +kernel
theorem dX9_guard_25 : decode cX9_guard 25 = .ok (.iconst 1, 1) := by decide +kernel
theorem dX9_guard_26 : decode cX9_guard 26 = .ok (.goto 4, 3) := by decide +kernel
theorem dX9_guard_29 : decode cX9_guard 29 = .ok (.iconst 0, 1) := by decide +kernel
theorem dX9_guard_30 : decode cX9_guard 30 = .ok (.istore 7, 2) := by decide +kernel
theorem dX9_guard_32 : decode cX9_guard 32 = .ok (.aload 6, 2) := by decide +kernel
theorem dX9_guard_34 : decode cX9_guard 34 = .ok (.ifnull 28, 3) := by decide +kernel
theorem dX9_guard_37 : decode cX9_guard 37 = .ok (.iload 7, 2) := by decide +kernel
theorem dX9_guard_39 : decode cX9_guard 39 = .ok (.ifCond .eq 23, 3) := by decide +kernel
theorem dX9_guard_42 : decode cX9_guard 42 = .ok (.iload 4, 2) := by decide +kernel
theorem dX9_guard_44 : decode cX9_guard 44 = .ok (.ifCond .lt 18, 3) := by decide +kernel
theorem dX9_guard_47 : decode cX9_guard 47 = .ok (.iload 4, 2) := by decide +kernel
theorem dX9_guard_49 : decode cX9_guard 49 = .ok (.bipush 12, 2) := by decide +kernel
theorem dX9_guard_51 : decode cX9_guard 51 = .ok (.if_icmp .gt 11, 3) := by decide +kernel
theorem dX9_guard_54 : decode cX9_guard 54 = .ok (.iload 5, 2) := by decide +kernel
theorem dX9_guard_56 : decode cX9_guard 56 = .ok (.invokestatic 97, 3) := by decide +kernel
theorem dX9_guard_59 : decode cX9_guard 59 = .ok (.ifCond .ne 6, 3) := by decide +kernel
theorem dX9_guard_62 : decode cX9_guard 62 = .ok (.ldc 23, 2) := by decide +kernel
theorem dX9_guard_64 : decode cX9_guard 64 = .ok (.ireturn, 1) := by decide +kernel
theorem dX9_guard_65 : decode cX9_guard 65 = .ok (.aload 6, 2) := by decide +kernel
theorem dX9_guard_67 : decode cX9_guard 67 = .ok (.iload_n 2, 1) := by decide +kernel
theorem dX9_guard_68 : decode cX9_guard 68 = .ok (.iload_n 3, 1) := by decide +kernel
theorem dX9_guard_69 : decode cX9_guard 69 = .ok (.iload 4, 2) := by decide +kernel
theorem dX9_guard_71 : decode cX9_guard 71 = .ok (.iload 5, 2) := by decide +kernel
theorem dX9_guard_73 : decode cX9_guard 73 = .ok (.invokevirtual 100, 3) := by decide +kernel
theorem dX9_guard_76 : decode cX9_guard 76 = .ok (.ireturn, 1) := by decide +kernel
theorem dX9_last_0 : decode cX9_last 0 = .ok (.aload_n 0, 1) := by decide +kernel
theorem dX9_last_1 : decode cX9_last 1 = .ok (.getfield 10, 3) := by decide +kernel
theorem dX9_last_4 : decode cX9_last 4 = .ok (.iload_n 1, 1) := by decide +kernel
theorem dX9_last_5 : decode cX9_last 5 = .ok (.invokevirtual 83, 3) := by decide +kernel
theorem dX9_last_8 : decode cX9_last 8 = .ok (.astore_n 3, 1) := by decide +kernel
theorem dX9_last_9 : decode cX9_last 9 = .ok (.aload_n 3, 1) := by decide +kernel
theorem dX9_last_10 : decode cX9_last 10 = .ok (.ifnull 15, 3) := by decide +kernel
theorem dX9_last_13 : decode cX9_last 13 = .ok (.iload_n 2, 1) := by decide +kernel
theorem dX9_last_14 : decode cX9_last 14 = .ok (.iconst (-1), 1) := by decide +kernel
theorem dX9_last_15 : decode cX9_last 15 = .ok (.if_icmp .eq 13, 3) := by decide +kernel
theorem dX9_last_18 : decode cX9_last 18 = .ok (.iload_n 2, 1) := by decide +kernel
theorem dX9_last_19 : decode cX9_last 19 = .ok (.invokestatic 97, 3) := by decide +kernel
theorem dX9_last_22 : decode cX9_last 22 = .ok (.ifCond .ne 6, 3) := by decide +kernel
theorem dX9_last_25 : decode cX9_last 25 = .ok (.ldc 23, 2) := by decide +kernel
theorem dX9_last_27 : decode cX9_last 27 = .ok (.ireturn, 1) := by decide +kernel
theorem dX9_last_28 : decode cX9_last 28 = .ok (.aload_n 3, 1) := by decide +kernel
theorem dX9_last_29 : decode cX9_last 29 = .ok (.getfield 104, 3) := by decide +kernel
theorem dX9_last_32 : decode cX9_last 32 = .ok (.istore 4, 2) := by decide +kernel
theorem dX9_last_34 : decode cX9_last 34 = .ok (.aload_n 3, 1) := by decide +kernel
theorem dX9_last_35 : decode cX9_last 35 = .ok (.iload_n 2, 1) := by decide +kernel
theorem dX9_last_36 : decode cX9_last 36 = .ok (.putfield 104, 3) := by decide +kernel
theorem dX9_last_39 : decode cX9_last 39 = .ok (.iload 4, 2) := by decide +kernel
theorem dX9_last_41 : decode cX9_last 41 = .ok (.ireturn, 1) := by decide +kernel
theorem dX9_run_0 : decode cX9_run 0 = .ok (.aload_n 0, 1) := by decide +kernel
theorem dX9_run_1 : decode cX9_run 1 = .ok (.getfield 10, 3) := by decide +kernel
theorem dX9_run_4 : decode cX9_run 4 = .ok (.iload_n 1, 1) := by decide +kernel
theorem dX9_run_5 : decode cX9_run 5 = .ok (.invokevirtual 83, 3) := by decide +kernel
theorem dX9_run_8 : decode cX9_run 8 = .ok (.astore 6, 2) := by decide +kernel
theorem dX9_run_10 : decode cX9_run 10 = .ok (.aload 6, 2) := by decide +kernel
theorem dX9_run_12 : decode cX9_run 12 = .ok (.ifnull 11, 3) := by decide +kernel
theorem dX9_run_15 : decode cX9_run 15 = .ok (.aload 6, 2) := by decide +kernel
theorem dX9_run_17 : decode cX9_run 17 = .ok (.getfield 108, 3) := by decide +kernel
theorem dX9_run_20 : decode cX9_run 20 = .ok (.ifCond .ne 6, 3) := by decide +kernel
theorem dX9_run_23 : decode cX9_run 23 = .ok (.ldc 23, 2) := by decide +kernel
theorem dX9_run_25 : decode cX9_run 25 = .ok (.ireturn, 1) := by decide +kernel
theorem dX9_run_26 : decode cX9_run 26 = .ok (.aload_n 0, 1) := by decide +kernel
theorem dX9_run_27 : decode cX9_run 27 = .ok (.getfield 10, 3) := by decide +kernel
theorem dX9_run_30 : decode cX9_run 30 = .ok (.iload_n 1, 1) := by decide +kernel
theorem dX9_run_31 : decode cX9_run 31 = .ok (.aload 6, 2) := by decide +kernel
theorem dX9_run_33 : decode cX9_run 33 = .ok (.lload_n 2, 1) := by decide +kernel
theorem dX9_run_34 : decode cX9_run 34 = .ok (.lload 4, 2) := by decide +kernel
theorem dX9_run_36 : decode cX9_run 36 = .ok (.invokevirtual 111, 3) := by decide +kernel
theorem dX9_run_39 : decode cX9_run 39 = .ok (.ireturn, 1) := by decide +kernel
theorem dX9_result_0 : decode cX9_result 0 = .ok (.aload_n 0, 1) := by decide +kernel
theorem dX9_result_1 : decode cX9_result 1 = .ok (.getfield 10, 3) := by decide +kernel
theorem dX9_result_4 : decode cX9_result 4 = .ok (.getfield 115, 3) := by decide +kernel
theorem dX9_result_7 : decode cX9_result 7 = .ok (.lreturn, 1) := by decide +kernel
theorem dX9_told_0 : decode cX9_told 0 = .ok (.iload_n 1, 1) := by decide +kernel
theorem dX9_told_1 : decode cX9_told 1 = .ok (.tableswitch 120 0 7 #[47, 58, 69, 80, 88, 96, 104, 112], 47) := by decide +kernel
theorem dX9_told_48 : decode cX9_told 48 = .ok (.aload_n 0, 1) := by decide +kernel
theorem dX9_told_49 : decode cX9_told 49 = .ok (.getfield 10, 3) := by decide +kernel
theorem dX9_told_52 : decode cX9_told 52 = .ok (.getfield 119, 3) := by decide +kernel
theorem dX9_told_55 : decode cX9_told 55 = .ok (.getfield 123, 3) := by decide +kernel
theorem dX9_told_58 : decode cX9_told 58 = .ok (.ireturn, 1) := by decide +kernel
theorem dX9_told_59 : decode cX9_told 59 = .ok (.aload_n 0, 1) := by decide +kernel
theorem dX9_told_60 : decode cX9_told 60 = .ok (.getfield 10, 3) := by decide +kernel
theorem dX9_told_63 : decode cX9_told 63 = .ok (.getfield 119, 3) := by decide +kernel
theorem dX9_told_66 : decode cX9_told 66 = .ok (.getfield 128, 3) := by decide +kernel
theorem dX9_told_69 : decode cX9_told 69 = .ok (.ireturn, 1) := by decide +kernel
theorem dX9_told_70 : decode cX9_told 70 = .ok (.aload_n 0, 1) := by decide +kernel
theorem dX9_told_71 : decode cX9_told 71 = .ok (.getfield 10, 3) := by decide +kernel
theorem dX9_told_74 : decode cX9_told 74 = .ok (.getfield 119, 3) := by decide +kernel
theorem dX9_told_77 : decode cX9_told 77 = .ok (.getfield 131, 3) := by decide +kernel
theorem dX9_told_80 : decode cX9_told 80 = .ok (.ireturn, 1) := by decide +kernel
theorem dX9_told_81 : decode cX9_told 81 = .ok (.aload_n 0, 1) := by decide +kernel
theorem dX9_told_82 : decode cX9_told 82 = .ok (.getfield 10, 3) := by decide +kernel
theorem dX9_told_85 : decode cX9_told 85 = .ok (.getfield 134, 3) := by decide +kernel
theorem dX9_told_88 : decode cX9_told 88 = .ok (.ireturn, 1) := by decide +kernel
theorem dX9_told_89 : decode cX9_told 89 = .ok (.aload_n 0, 1) := by decide +kernel
theorem dX9_told_90 : decode cX9_told 90 = .ok (.getfield 10, 3) := by decide +kernel
theorem dX9_told_93 : decode cX9_told 93 = .ok (.getfield 137, 3) := by decide +kernel
theorem dX9_told_96 : decode cX9_told 96 = .ok (.ireturn, 1) := by decide +kernel
theorem dX9_told_97 : decode cX9_told 97 = .ok (.aload_n 0, 1) := by decide +kernel
theorem dX9_told_98 : decode cX9_told 98 = .ok (.getfield 10, 3) := by decide +kernel
theorem dX9_told_101 : decode cX9_told 101 = .ok (.getfield 140, 3) := by decide +kernel
theorem dX9_told_104 : decode cX9_told 104 = .ok (.ireturn, 1) := by decide +kernel
theorem dX9_told_105 : decode cX9_told 105 = .ok (.aload_n 0, 1) := by decide +kernel
theorem dX9_told_106 : decode cX9_told 106 = .ok (.getfield 10, 3) := by decide +kernel
theorem dX9_told_109 : decode cX9_told 109 = .ok (.getfield 143, 3) := by decide +kernel
theorem dX9_told_112 : decode cX9_told 112 = .ok (.ireturn, 1) := by decide +kernel
theorem dX9_told_113 : decode cX9_told 113 = .ok (.aload_n 0, 1) := by decide +kernel
theorem dX9_told_114 : decode cX9_told 114 = .ok (.getfield 10, 3) := by decide +kernel
theorem dX9_told_117 : decode cX9_told 117 = .ok (.getfield 146, 3) := by decide +kernel
theorem dX9_told_120 : decode cX9_told 120 = .ok (.ireturn, 1) := by decide +kernel
theorem dX9_told_121 : decode cX9_told 121 = .ok (.ldc 23, 2) := by decide +kernel
theorem dX9_told_123 : decode cX9_told 123 = .ok (.ireturn, 1) := by decide +kernel
theorem dX9_number_0 : decode cX9_number 0 = .ok (.aload_n 0, 1) := by decide +kernel
theorem dX9_number_1 : decode cX9_number 1 = .ok (.getfield 10, 3) := by decide +kernel
theorem dX9_number_4 : decode cX9_number 4 = .ok (.getfield 119, 3) := by decide +kernel
theorem dX9_number_7 : decode cX9_number 7 = .ok (.getfield 149, 3) := by decide +kernel
theorem dX9_number_10 : decode cX9_number 10 = .ok (.lreturn, 1) := by decide +kernel
theorem dX9_output_0 : decode cX9_output 0 = .ok (.iload_n 1, 1) := by decide +kernel
theorem dX9_output_1 : decode cX9_output 1 = .ok (.ifCond .lt 26, 3) := by decide +kernel
theorem dX9_output_4 : decode cX9_output 4 = .ok (.iload_n 1, 1) := by decide +kernel
theorem dX9_output_5 : decode cX9_output 5 = .ok (.aload_n 0, 1) := by decide +kernel
theorem dX9_output_6 : decode cX9_output 6 = .ok (.getfield 10, 3) := by decide +kernel
theorem dX9_output_9 : decode cX9_output 9 = .ok (.getfield 152, 3) := by decide +kernel
theorem dX9_output_12 : decode cX9_output 12 = .ok (.if_icmp .ge 15, 3) := by decide +kernel
theorem dX9_output_15 : decode cX9_output 15 = .ok (.aload_n 0, 1) := by decide +kernel
theorem dX9_output_16 : decode cX9_output 16 = .ok (.getfield 10, 3) := by decide +kernel
theorem dX9_output_19 : decode cX9_output 19 = .ok (.getfield 155, 3) := by decide +kernel
theorem dX9_output_22 : decode cX9_output 22 = .ok (.iload_n 1, 1) := by decide +kernel
theorem dX9_output_23 : decode cX9_output 23 = .ok (.laload, 1) := by decide +kernel
theorem dX9_output_24 : decode cX9_output 24 = .ok (.goto 4, 3) := by decide +kernel
theorem dX9_output_27 : decode cX9_output 27 = .ok (.lconst 0, 1) := by decide +kernel
theorem dX9_output_28 : decode cX9_output 28 = .ok (.lreturn, 1) := by decide +kernel
theorem dX9_count_0 : decode cX9_count 0 = .ok (.iload_n 1, 1) := by decide +kernel
theorem dX9_count_1 : decode cX9_count 1 = .ok (.tableswitch 69 0 3 #[31, 42, 50, 61], 31) := by decide +kernel
theorem dX9_count_32 : decode cX9_count 32 = .ok (.aload_n 0, 1) := by decide +kernel
theorem dX9_count_33 : decode cX9_count 33 = .ok (.getfield 10, 3) := by decide +kernel
theorem dX9_count_36 : decode cX9_count 36 = .ok (.getfield 63, 3) := by decide +kernel
theorem dX9_count_39 : decode cX9_count 39 = .ok (.getfield 159, 3) := by decide +kernel
theorem dX9_count_42 : decode cX9_count 42 = .ok (.ireturn, 1) := by decide +kernel
theorem dX9_count_43 : decode cX9_count 43 = .ok (.aload_n 0, 1) := by decide +kernel
theorem dX9_count_44 : decode cX9_count 44 = .ok (.getfield 10, 3) := by decide +kernel
theorem dX9_count_47 : decode cX9_count 47 = .ok (.getfield 162, 3) := by decide +kernel
theorem dX9_count_50 : decode cX9_count 50 = .ok (.ireturn, 1) := by decide +kernel
theorem dX9_count_51 : decode cX9_count 51 = .ok (.aload_n 0, 1) := by decide +kernel
theorem dX9_count_52 : decode cX9_count 52 = .ok (.getfield 10, 3) := by decide +kernel
theorem dX9_count_55 : decode cX9_count 55 = .ok (.getfield 165, 3) := by decide +kernel
theorem dX9_count_58 : decode cX9_count 58 = .ok (.getfield 169, 3) := by decide +kernel
theorem dX9_count_61 : decode cX9_count 61 = .ok (.ireturn, 1) := by decide +kernel
theorem dX9_count_62 : decode cX9_count 62 = .ok (.aload_n 0, 1) := by decide +kernel
theorem dX9_count_63 : decode cX9_count 63 = .ok (.getfield 10, 3) := by decide +kernel
theorem dX9_count_66 : decode cX9_count 66 = .ok (.getfield 152, 3) := by decide +kernel
theorem dX9_count_69 : decode cX9_count 69 = .ok (.ireturn, 1) := by decide +kernel
theorem dX9_count_70 : decode cX9_count 70 = .ok (.iload_n 1, 1) := by decide +kernel
theorem dX9_count_71 : decode cX9_count 71 = .ok (.aload_n 0, 1) := by decide +kernel
theorem dX9_count_72 : decode cX9_count 72 = .ok (.getfield 10, 3) := by decide +kernel
theorem dX9_count_75 : decode cX9_count 75 = .ok (.iload_n 2, 1) := by decide +kernel
theorem dX9_count_76 : decode cX9_count 76 = .ok (.invokevirtual 83, 3) := by decide +kernel
theorem dX9_count_79 : decode cX9_count 79 = .ok (.invokestatic 174, 3) := by decide +kernel
theorem dX9_count_82 : decode cX9_count 82 = .ok (.ireturn, 1) := by decide +kernel
theorem dX9_forget_0 : decode cX9_forget 0 = .ok (.aload_n 0, 1) := by decide +kernel
theorem dX9_forget_1 : decode cX9_forget 1 = .ok (.getfield 10, 3) := by decide +kernel
theorem dX9_forget_4 : decode cX9_forget 4 = .ok (.getfield 165, 3) := by decide +kernel
theorem dX9_forget_7 : decode cX9_forget 7 = .ok (.invokevirtual 178, 3) := by decide +kernel
theorem dX9_forget_10 : decode cX9_forget 10 = .ok (.ireturn, 1) := by decide +kernel
theorem dX9_countOfRoutine_0 : decode cX9_countOfRoutine 0 = .ok (.aload_n 1, 1) := by decide +kernel
theorem dX9_countOfRoutine_1 : decode cX9_countOfRoutine 1 = .ok (.ifnonnull 6, 3) := by decide +kernel
theorem dX9_countOfRoutine_4 : decode cX9_countOfRoutine 4 = .ok (.ldc 23, 2) := by decide +kernel
theorem dX9_countOfRoutine_6 : decode cX9_countOfRoutine 6 = .ok (.ireturn, 1) := by decide +kernel
theorem dX9_countOfRoutine_7 : decode cX9_countOfRoutine 7 = .ok (.iload_n 0, 1) := by decide +kernel
theorem dX9_countOfRoutine_8 : decode cX9_countOfRoutine 8 = .ok (.tableswitch 43 4 6 #[28, 33, 38], 28) := by decide +kernel
theorem dX9_countOfRoutine_36 : decode cX9_countOfRoutine 36 = .ok (.aload_n 1, 1) := by decide +kernel
theorem dX9_countOfRoutine_37 : decode cX9_countOfRoutine 37 = .ok (.getfield 182, 3) := by decide +kernel
theorem dX9_countOfRoutine_40 : decode cX9_countOfRoutine 40 = .ok (.ireturn, 1) := by decide +kernel
theorem dX9_countOfRoutine_41 : decode cX9_countOfRoutine 41 = .ok (.aload_n 1, 1) := by decide +kernel
theorem dX9_countOfRoutine_42 : decode cX9_countOfRoutine 42 = .ok (.getfield 108, 3) := by decide +kernel
theorem dX9_countOfRoutine_45 : decode cX9_countOfRoutine 45 = .ok (.ireturn, 1) := by decide +kernel
theorem dX9_countOfRoutine_46 : decode cX9_countOfRoutine 46 = .ok (.aload_n 1, 1) := by decide +kernel
theorem dX9_countOfRoutine_47 : decode cX9_countOfRoutine 47 = .ok (.getfield 185, 3) := by decide +kernel
theorem dX9_countOfRoutine_50 : decode cX9_countOfRoutine 50 = .ok (.ireturn, 1) := by decide +kernel
theorem dX9_countOfRoutine_51 : decode cX9_countOfRoutine 51 = .ok (.ldc 23, 2) := by decide +kernel
theorem dX9_countOfRoutine_53 : decode cX9_countOfRoutine 53 = .ok (.ireturn, 1) := by decide +kernel
theorem dX9_isRow_0 : decode cX9_isRow 0 = .ok (.iload_n 0, 1) := by decide +kernel
theorem dX9_isRow_1 : decode cX9_isRow 1 = .ok (.ifCond .lt 13, 3) := by decide +kernel
theorem dX9_isRow_4 : decode cX9_isRow 4 = .ok (.iload_n 0, 1) := by decide +kernel
theorem dX9_isRow_5 : decode cX9_isRow 5 = .ok (.bipush 12, 2) := by decide +kernel
theorem dX9_isRow_7 : decode cX9_isRow 7 = .ok (.if_icmp .ge 7, 3) := by decide +kernel
theorem dX9_isRow_10 : decode cX9_isRow 10 = .ok (.iconst 1, 1) := by decide +kernel
theorem dX9_isRow_11 : decode cX9_isRow 11 = .ok (.goto 4, 3) := by decide +kernel
theorem dX9_isRow_14 : decode cX9_isRow 14 = .ok (.iconst 0, 1) := by decide +kernel
theorem dX9_isRow_15 : decode cX9_isRow 15 = .ok (.ireturn, 1) := by decide +kernel
theorem dX9_isLane_0 : decode cX9_isLane 0 = .ok (.iload_n 0, 1) := by decide +kernel
theorem dX9_isLane_1 : decode cX9_isLane 1 = .ok (.ifCond .lt 13, 3) := by decide +kernel
theorem dX9_isLane_4 : decode cX9_isLane 4 = .ok (.iload_n 0, 1) := by decide +kernel
theorem dX9_isLane_5 : decode cX9_isLane 5 = .ok (.bipush 8, 2) := by decide +kernel
theorem dX9_isLane_7 : decode cX9_isLane 7 = .ok (.if_icmp .ge 7, 3) := by decide +kernel
theorem dX9_isLane_10 : decode cX9_isLane 10 = .ok (.iconst 1, 1) := by decide +kernel
theorem dX9_isLane_11 : decode cX9_isLane 11 = .ok (.goto 4, 3) := by decide +kernel
theorem dX9_isLane_14 : decode cX9_isLane 14 = .ok (.iconst 0, 1) := by decide +kernel
theorem dX9_isLane_15 : decode cX9_isLane 15 = .ok (.ireturn, 1) := by decide +kernel
theorem dX9_isPlace_0 : decode cX9_isPlace 0 = .ok (.iload_n 0, 1) := by decide +kernel
theorem dX9_isPlace_1 : decode cX9_isPlace 1 = .ok (.ifCond .lt 13, 3) := by decide +kernel
theorem dX9_isPlace_4 : decode cX9_isPlace 4 = .ok (.iload_n 0, 1) := by decide +kernel
theorem dX9_isPlace_5 : decode cX9_isPlace 5 = .ok (.bipush 30, 2) := by decide +kernel
theorem dX9_isPlace_7 : decode cX9_isPlace 7 = .ok (.if_icmp .ge 7, 3) := by decide +kernel
theorem dX9_isPlace_10 : decode cX9_isPlace 10 = .ok (.iconst 1, 1) := by decide +kernel
theorem dX9_isPlace_11 : decode cX9_isPlace 11 = .ok (.goto 4, 3) := by decide +kernel
theorem dX9_isPlace_14 : decode cX9_isPlace 14 = .ok (.iconst 0, 1) := by decide +kernel
theorem dX9_isPlace_15 : decode cX9_isPlace 15 = .ok (.ireturn, 1) := by decide +kernel
theorem dX10_init_0 : decode cX10_init 0 = .ok (.aload_n 0, 1) := by decide +kernel
theorem dX10_init_1 : decode cX10_init 1 = .ok (.invokespecial 1, 3) := by decide +kernel
theorem dX10_init_4 : decode cX10_init 4 = .ok (.aload_n 0, 1) := by decide +kernel
theorem dX10_init_5 : decode cX10_init 5 = .ok (.bipush 12, 2) := by decide +kernel
theorem dX10_init_7 : decode cX10_init 7 = .ok (.newarray .int, 2) := by decide +kernel
theorem dX10_init_9 : decode cX10_init 9 = .ok (.putfield 7, 3) := by decide +kernel
theorem dX10_init_12 : decode cX10_init 12 = .ok (.aload_n 0, 1) := by decide +kernel
theorem dX10_init_13 : decode cX10_init 13 = .ok (.bipush 12, 2) := by decide +kernel
theorem dX10_init_15 : decode cX10_init 15 = .ok (.newarray .int, 2) := by decide +kernel
theorem dX10_init_17 : decode cX10_init 17 = .ok (.putfield 13, 3) := by decide +kernel
theorem dX10_init_20 : decode cX10_init 20 = .ok (.aload_n 0, 1) := by decide +kernel
theorem dX10_init_21 : decode cX10_init 21 = .ok (.bipush 12, 2) := by decide +kernel
theorem dX10_init_23 : decode cX10_init 23 = .ok (.newarray .int, 2) := by decide +kernel
theorem dX10_init_25 : decode cX10_init 25 = .ok (.putfield 16, 3) := by decide +kernel
theorem dX10_init_28 : decode cX10_init 28 = .ok (.aload_n 0, 1) := by decide +kernel
theorem dX10_init_29 : decode cX10_init 29 = .ok (.sipush 144, 3) := by decide +kernel
theorem dX10_init_32 : decode cX10_init 32 = .ok (.newarray .long, 2) := by decide +kernel
theorem dX10_init_34 : decode cX10_init 34 = .ok (.putfield 19, 3) := by decide +kernel
theorem dX10_init_37 : decode cX10_init 37 = .ok (.aload_n 0, 1) := by decide +kernel
theorem dX10_init_38 : decode cX10_init 38 = .ok (.sipush 144, 3) := by decide +kernel
theorem dX10_init_41 : decode cX10_init 41 = .ok (.newarray .double, 2) := by decide +kernel
theorem dX10_init_43 : decode cX10_init 43 = .ok (.putfield 23, 3) := by decide +kernel
theorem dX10_init_46 : decode cX10_init 46 = .ok (.aload_n 0, 1) := by decide +kernel
theorem dX10_init_47 : decode cX10_init 47 = .ok (.bipush 12, 2) := by decide +kernel
theorem dX10_init_49 : decode cX10_init 49 = .ok (.newarray .int, 2) := by decide +kernel
theorem dX10_init_51 : decode cX10_init 51 = .ok (.putfield 27, 3) := by decide +kernel
theorem dX10_init_54 : decode cX10_init 54 = .ok (.aload_n 0, 1) := by decide +kernel
theorem dX10_init_55 : decode cX10_init 55 = .ok (.bipush 12, 2) := by decide +kernel
theorem dX10_init_57 : decode cX10_init 57 = .ok (.newarray .int, 2) := by decide +kernel
theorem dX10_init_59 : decode cX10_init 59 = .ok (.putfield 30, 3) := by decide +kernel
theorem dX10_init_62 : decode cX10_init 62 = .ok (.aload_n 0, 1) := by decide +kernel
theorem dX10_init_63 : decode cX10_init 63 = .ok (.bipush 12, 2) := by decide +kernel
theorem dX10_init_65 : decode cX10_init 65 = .ok (.newarray .int, 2) := by decide +kernel
theorem dX10_init_67 : decode cX10_init 67 = .ok (.putfield 33, 3) := by decide +kernel
theorem dX10_init_70 : decode cX10_init 70 = .ok (.aload_n 0, 1) := by decide +kernel
theorem dX10_init_71 : decode cX10_init 71 = .ok (.bipush 12, 2) := by decide +kernel
theorem dX10_init_73 : decode cX10_init 73 = .ok (.newarray .int, 2) := by decide +kernel
theorem dX10_init_75 : decode cX10_init 75 = .ok (.putfield 36, 3) := by decide +kernel
theorem dX10_init_78 : decode cX10_init 78 = .ok (.aload_n 0, 1) := by decide +kernel
theorem dX10_init_79 : decode cX10_init 79 = .ok (.bipush 48, 2) := by decide +kernel
theorem dX10_init_81 : decode cX10_init 81 = .ok (.newarray .int, 2) := by decide +kernel
theorem dX10_init_83 : decode cX10_init 83 = .ok (.putfield 39, 3) := by decide +kernel
theorem dX10_init_86 : decode cX10_init 86 = .ok (.aload_n 0, 1) := by decide +kernel
theorem dX10_init_87 : decode cX10_init 87 = .ok (.bipush 12, 2) := by decide +kernel
theorem dX10_init_89 : decode cX10_init 89 = .ok (.newarray .int, 2) := by decide +kernel
theorem dX10_init_91 : decode cX10_init 91 = .ok (.putfield 42, 3) := by decide +kernel
theorem dX10_init_94 : decode cX10_init 94 = .ok (.aload_n 0, 1) := by decide +kernel
theorem dX10_init_95 : decode cX10_init 95 = .ok (.bipush 12, 2) := by decide +kernel
theorem dX10_init_97 : decode cX10_init 97 = .ok (.newarray .int, 2) := by decide +kernel
theorem dX10_init_99 : decode cX10_init 99 = .ok (.putfield 45, 3) := by decide +kernel
theorem dX10_init_102 : decode cX10_init 102 = .ok (.aload_n 0, 1) := by decide +kernel
theorem dX10_init_103 : decode cX10_init 103 = .ok (.bipush 12, 2) := by decide +kernel
theorem dX10_init_105 : decode cX10_init 105 = .ok (.newarray .int, 2) := by decide +kernel
theorem dX10_init_107 : decode cX10_init 107 = .ok (.putfield 48, 3) := by decide +kernel
theorem dX10_init_110 : decode cX10_init 110 = .ok (.aload_n 0, 1) := by decide +kernel
theorem dX10_init_111 : decode cX10_init 111 = .ok (.bipush 12, 2) := by decide +kernel
theorem dX10_init_113 : decode cX10_init 113 = .ok (.newarray .int, 2) := by decide +kernel
theorem dX10_init_115 : decode cX10_init 115 = .ok (.putfield 51, 3) := by decide +kernel
theorem dX10_init_118 : decode cX10_init 118 = .ok (.aload_n 0, 1) := by decide +kernel
theorem dX10_init_119 : decode cX10_init 119 = .ok (.sipush 360, 3) := by decide +kernel
theorem dX10_init_122 : decode cX10_init 122 = .ok (.newarray .int, 2) := by decide +kernel
theorem dX10_init_124 : decode cX10_init 124 = .ok (.putfield 54, 3) := by decide +kernel
theorem dX10_init_127 : decode cX10_init 127 = .ok (.aload_n 0, 1) := by decide +kernel
theorem dX10_init_128 : decode cX10_init 128 = .ok (.sipush 360, 3) := by decide +kernel
theorem dX10_init_131 : decode cX10_init 131 = .ok (.newarray .int, 2) := by decide +kernel
theorem dX10_init_133 : decode cX10_init 133 = .ok (.putfield 57, 3) := by decide +kernel
theorem dX10_init_136 : decode cX10_init 136 = .ok (.aload_n 0, 1) := by decide +kernel
theorem dX10_init_137 : decode cX10_init 137 = .ok (.sipush 360, 3) := by decide +kernel
theorem dX10_init_140 : decode cX10_init 140 = .ok (.newarray .int, 2) := by decide +kernel
theorem dX10_init_142 : decode cX10_init 142 = .ok (.putfield 60, 3) := by decide +kernel
theorem dX10_init_145 : decode cX10_init 145 = .ok (.aload_n 0, 1) := by decide +kernel
theorem dX10_init_146 : decode cX10_init 146 = .ok (.sipush 192, 3) := by decide +kernel
theorem dX10_init_149 : decode cX10_init 149 = .ok (.newarray .int, 2) := by decide +kernel
theorem dX10_init_151 : decode cX10_init 151 = .ok (.putfield 63, 3) := by decide +kernel
theorem dX10_init_154 : decode cX10_init 154 = .ok (.aload_n 0, 1) := by decide +kernel
theorem dX10_init_155 : decode cX10_init 155 = .ok (.bipush 12, 2) := by decide +kernel
theorem dX10_init_157 : decode cX10_init 157 = .ok (.newarray .int, 2) := by decide +kernel
theorem dX10_init_159 : decode cX10_init 159 = .ok (.putfield 66, 3) := by decide +kernel
theorem dX10_init_162 : decode cX10_init 162 = .ok (.aload_n 0, 1) := by decide +kernel
theorem dX10_init_163 : decode cX10_init 163 = .ok (.bipush 12, 2) := by decide +kernel
theorem dX10_init_165 : decode cX10_init 165 = .ok (.newarray .int, 2) := by decide +kernel
theorem dX10_init_167 : decode cX10_init 167 = .ok (.putfield 69, 3) := by decide +kernel
theorem dX10_init_170 : decode cX10_init 170 = .ok (.aload_n 0, 1) := by decide +kernel
theorem dX10_init_171 : decode cX10_init 171 = .ok (.bipush 72, 2) := by decide +kernel
theorem dX10_init_173 : decode cX10_init 173 = .ok (.newarray .long, 2) := by decide +kernel
theorem dX10_init_175 : decode cX10_init 175 = .ok (.putfield 72, 3) := by decide +kernel
theorem dX10_init_178 : decode cX10_init 178 = .ok (.aload_n 0, 1) := by decide +kernel
theorem dX10_init_179 : decode cX10_init 179 = .ok (.bipush 96, 2) := by decide +kernel
theorem dX10_init_181 : decode cX10_init 181 = .ok (.newarray .long, 2) := by decide +kernel
theorem dX10_init_183 : decode cX10_init 183 = .ok (.putfield 75, 3) := by decide +kernel
theorem dX10_init_186 : decode cX10_init 186 = .ok (.aload_n 0, 1) := by decide +kernel
theorem dX10_init_187 : decode cX10_init 187 = .ok (.bipush 12, 2) := by decide +kernel
theorem dX10_init_189 : decode cX10_init 189 = .ok (.newarray .int, 2) := by decide +kernel
theorem dX10_init_191 : decode cX10_init 191 = .ok (.putfield 78, 3) := by decide +kernel
theorem dX10_init_194 : decode cX10_init 194 = .ok (.aload_n 0, 1) := by decide +kernel
theorem dX10_init_195 : decode cX10_init 195 = .ok (.bipush 12, 2) := by decide +kernel
theorem dX10_init_197 : decode cX10_init 197 = .ok (.newarray .boolean, 2) := by decide +kernel
theorem dX10_init_199 : decode cX10_init 199 = .ok (.putfield 81, 3) := by decide +kernel
theorem dX10_init_202 : decode cX10_init 202 = .ok (.aload_n 0, 1) := by decide +kernel
theorem dX10_init_203 : decode cX10_init 203 = .ok (.bipush 12, 2) := by decide +kernel
theorem dX10_init_205 : decode cX10_init 205 = .ok (.newarray .int, 2) := by decide +kernel
theorem dX10_init_207 : decode cX10_init 207 = .ok (.putfield 85, 3) := by decide +kernel
theorem dX10_init_210 : decode cX10_init 210 = .ok (.aload_n 0, 1) := by decide +kernel
theorem dX10_init_211 : decode cX10_init 211 = .ok (.bipush 12, 2) := by decide +kernel
theorem dX10_init_213 : decode cX10_init 213 = .ok (.newarray .long, 2) := by decide +kernel
theorem dX10_init_215 : decode cX10_init 215 = .ok (.putfield 88, 3) := by decide +kernel
theorem dX10_init_218 : decode cX10_init 218 = .ok (.aload_n 0, 1) := by decide +kernel
theorem dX10_init_219 : decode cX10_init 219 = .ok (.bipush 12, 2) := by decide +kernel
theorem dX10_init_221 : decode cX10_init 221 = .ok (.newarray .int, 2) := by decide +kernel
theorem dX10_init_223 : decode cX10_init 223 = .ok (.putfield 91, 3) := by decide +kernel
theorem dX10_init_226 : decode cX10_init 226 = .ok (.aload_n 0, 1) := by decide +kernel
theorem dX10_init_227 : decode cX10_init 227 = .ok (.bipush 12, 2) := by decide +kernel
theorem dX10_init_229 : decode cX10_init 229 = .ok (.newarray .int, 2) := by decide +kernel
theorem dX10_init_231 : decode cX10_init 231 = .ok (.putfield 94, 3) := by decide +kernel
theorem dX10_init_234 : decode cX10_init 234 = .ok (.aload_n 0, 1) := by decide +kernel
theorem dX10_init_235 : decode cX10_init 235 = .ok (.bipush 60, 2) := by decide +kernel
theorem dX10_init_237 : decode cX10_init 237 = .ok (.newarray .long, 2) := by decide +kernel
theorem dX10_init_239 : decode cX10_init 239 = .ok (.putfield 97, 3) := by decide +kernel
theorem dX10_init_242 : decode cX10_init 242 = .ok (.aload_n 0, 1) := by decide +kernel
theorem dX10_init_243 : decode cX10_init 243 = .ok (.iconst (-1), 1) := by decide +kernel
theorem dX10_init_244 : decode cX10_init 244 = .ok (.putfield 100, 3) := by decide +kernel
theorem dX10_init_247 : decode cX10_init 247 = .ok (.aload_n 0, 1) := by decide +kernel
theorem dX10_init_248 : decode cX10_init 248 = .ok (.iconst (-1), 1) := by decide +kernel
theorem dX10_init_249 : decode cX10_init 249 = .ok (.putfield 104, 3) := by decide +kernel
theorem dX10_init_252 : decode cX10_init 252 = .ok (.aload_n 0, 1) := by decide +kernel
theorem dX10_init_253 : decode cX10_init 253 = .ok (.bipush 36, 2) := by decide +kernel
theorem dX10_init_255 : decode cX10_init 255 = .ok (.newarray .int, 2) := by decide +kernel
theorem dX10_init_257 : decode cX10_init 257 = .ok (.putfield 107, 3) := by decide +kernel
theorem dX10_init_260 : decode cX10_init 260 = .ok (.aload_n 0, 1) := by decide +kernel
theorem dX10_init_261 : decode cX10_init 261 = .ok (.bipush 36, 2) := by decide +kernel
theorem dX10_init_263 : decode cX10_init 263 = .ok (.newarray .int, 2) := by decide +kernel
theorem dX10_init_265 : decode cX10_init 265 = .ok (.putfield 110, 3) := by decide +kernel
theorem dX10_init_268 : decode cX10_init 268 = .ok (.aload_n 0, 1) := by decide +kernel
theorem dX10_init_269 : decode cX10_init 269 = .ok (.bipush 36, 2) := by decide +kernel
theorem dX10_init_271 : decode cX10_init 271 = .ok (.newarray .int, 2) := by decide +kernel
theorem dX10_init_273 : decode cX10_init 273 = .ok (.putfield 113, 3) := by decide +kernel
theorem dX10_init_276 : decode cX10_init 276 = .ok (.aload_n 0, 1) := by decide +kernel
theorem dX10_init_277 : decode cX10_init 277 = .ok (.sipush 432, 3) := by decide +kernel
theorem dX10_init_280 : decode cX10_init 280 = .ok (.newarray .long, 2) := by decide +kernel
theorem dX10_init_282 : decode cX10_init 282 = .ok (.putfield 116, 3) := by decide +kernel
theorem dX10_init_285 : decode cX10_init 285 = .ok (.aload_n 0, 1) := by decide +kernel
theorem dX10_init_286 : decode cX10_init 286 = .ok (.sipush 432, 3) := by decide +kernel
theorem dX10_init_289 : decode cX10_init 289 = .ok (.newarray .double, 2) := by decide +kernel
theorem dX10_init_291 : decode cX10_init 291 = .ok (.putfield 119, 3) := by decide +kernel
theorem dX10_init_294 : decode cX10_init 294 = .ok (.aload_n 0, 1) := by decide +kernel
theorem dX10_init_295 : decode cX10_init 295 = .ok (.iconst 3, 1) := by decide +kernel
theorem dX10_init_296 : decode cX10_init 296 = .ok (.newarray .int, 2) := by decide +kernel
theorem dX10_init_298 : decode cX10_init 298 = .ok (.putfield 122, 3) := by decide +kernel
theorem dX10_init_301 : decode cX10_init 301 = .ok (.aload_n 0, 1) := by decide +kernel
theorem dX10_init_302 : decode cX10_init 302 = .ok (.bipush 36, 2) := by decide +kernel
theorem dX10_init_304 : decode cX10_init 304 = .ok (.newarray .int, 2) := by decide +kernel
theorem dX10_init_306 : decode cX10_init 306 = .ok (.putfield 125, 3) := by decide +kernel
theorem dX10_init_309 : decode cX10_init 309 = .ok (.aload_n 0, 1) := by decide +kernel
theorem dX10_init_310 : decode cX10_init 310 = .ok (.bipush 36, 2) := by decide +kernel
theorem dX10_init_312 : decode cX10_init 312 = .ok (.newarray .int, 2) := by decide +kernel
theorem dX10_init_314 : decode cX10_init 314 = .ok (.putfield 128, 3) := by decide +kernel
theorem dX10_init_317 : decode cX10_init 317 = .ok (.aload_n 0, 1) := by decide +kernel
theorem dX10_init_318 : decode cX10_init 318 = .ok (.bipush 36, 2) := by decide +kernel
theorem dX10_init_320 : decode cX10_init 320 = .ok (.newarray .int, 2) := by decide +kernel
theorem dX10_init_322 : decode cX10_init 322 = .ok (.putfield 131, 3) := by decide +kernel
theorem dX10_init_325 : decode cX10_init 325 = .ok (.aload_n 0, 1) := by decide +kernel
theorem dX10_init_326 : decode cX10_init 326 = .ok (.sipush 144, 3) := by decide +kernel
theorem dX10_init_329 : decode cX10_init 329 = .ok (.newarray .int, 2) := by decide +kernel
theorem dX10_init_331 : decode cX10_init 331 = .ok (.putfield 134, 3) := by decide +kernel
theorem dX10_init_334 : decode cX10_init 334 = .ok (.iconst 0, 1) := by decide +kernel
theorem dX10_init_335 : decode cX10_init 335 = .ok (.istore_n 1, 1) := by decide +kernel
theorem dX10_init_336 : decode cX10_init 336 = .ok (.iload_n 1, 1) := by decide +kernel
theorem dX10_init_337 : decode cX10_init 337 = .ok (.bipush 12, 2) := by decide +kernel
theorem dX10_init_339 : decode cX10_init 339 = .ok (.if_icmp .ge 16, 3) := by decide +kernel
theorem dX10_init_342 : decode cX10_init 342 = .ok (.aload_n 0, 1) := by decide +kernel
theorem dX10_init_343 : decode cX10_init 343 = .ok (.getfield 7, 3) := by decide +kernel
theorem dX10_init_346 : decode cX10_init 346 = .ok (.iload_n 1, 1) := by decide +kernel
theorem dX10_init_347 : decode cX10_init 347 = .ok (.iconst (-1), 1) := by decide +kernel
theorem dX10_init_348 : decode cX10_init 348 = .ok (.iastore, 1) := by decide +kernel
theorem dX10_init_349 : decode cX10_init 349 = .ok (.iinc 1 1, 3) := by decide +kernel
theorem dX10_init_352 : decode cX10_init 352 = .ok (.goto (-16), 3) := by decide +kernel
theorem dX10_init_355 : decode cX10_init 355 = .ok (.return_, 1) := by decide +kernel
theorem dX10_in_0 : decode cX10_in 0 = .ok (.lload_n 0, 1) := by decide +kernel
theorem dX10_in_1 : decode cX10_in 1 = .ok (.lload_n 2, 1) := by decide +kernel
theorem dX10_in_2 : decode cX10_in 2 = .ok (.lcmp, 1) := by decide +kernel
theorem dX10_in_3 : decode cX10_in 3 = .ok (.ifCond .lt 14, 3) := by decide +kernel
theorem dX10_in_6 : decode cX10_in 6 = .ok (.lload_n 0, 1) := by decide +kernel
theorem dX10_in_7 : decode cX10_in 7 = .ok (.lload 4, 2) := by decide +kernel
theorem dX10_in_9 : decode cX10_in 9 = .ok (.lcmp, 1) := by decide +kernel
theorem dX10_in_10 : decode cX10_in 10 = .ok (.ifCond .gt 7, 3) := by decide +kernel
theorem dX10_in_13 : decode cX10_in 13 = .ok (.iconst 1, 1) := by decide +kernel
theorem dX10_in_14 : decode cX10_in 14 = .ok (.goto 4, 3) := by decide +kernel
theorem dX10_in_17 : decode cX10_in 17 = .ok (.iconst 0, 1) := by decide +kernel
theorem dX10_in_18 : decode cX10_in 18 = .ok (.ireturn, 1) := by decide +kernel
theorem dX10_isRow_0 : decode cX10_isRow 0 = .ok (.iload_n 0, 1) := by decide +kernel
theorem dX10_isRow_1 : decode cX10_isRow 1 = .ok (.i2l, 1) := by decide +kernel
theorem dX10_isRow_2 : decode cX10_isRow 2 = .ok (.lconst 0, 1) := by decide +kernel
theorem dX10_isRow_3 : decode cX10_isRow 3 = .ok (.ldc2_w 137, 3) := by decide +kernel
theorem dX10_isRow_6 : decode cX10_isRow 6 = .ok (.invokestatic 139, 3) := by decide +kernel
theorem dX10_isRow_9 : decode cX10_isRow 9 = .ok (.ireturn, 1) := by decide +kernel
theorem dX10_isLane_0 : decode cX10_isLane 0 = .ok (.iload_n 0, 1) := by decide +kernel
theorem dX10_isLane_1 : decode cX10_isLane 1 = .ok (.i2l, 1) := by decide +kernel
theorem dX10_isLane_2 : decode cX10_isLane 2 = .ok (.lconst 0, 1) := by decide +kernel
theorem dX10_isLane_3 : decode cX10_isLane 3 = .ok (.ldc2_w 143, 3) := by decide +kernel
theorem dX10_isLane_6 : decode cX10_isLane 6 = .ok (.invokestatic 139, 3) := by decide +kernel
theorem dX10_isLane_9 : decode cX10_isLane 9 = .ok (.ireturn, 1) := by decide +kernel
theorem dX10_spare_0 : decode cX10_spare 0 = .ok (.iconst (-1), 1) := by decide +kernel
theorem dX10_spare_1 : decode cX10_spare 1 = .ok (.istore_n 2, 1) := by decide +kernel
theorem dX10_spare_2 : decode cX10_spare 2 = .ok (.bipush 11, 2) := by decide +kernel
theorem dX10_spare_4 : decode cX10_spare 4 = .ok (.istore_n 3, 1) := by decide +kernel
theorem dX10_spare_5 : decode cX10_spare 5 = .ok (.iload_n 3, 1) := by decide +kernel
theorem dX10_spare_6 : decode cX10_spare 6 = .ok (.ifCond .lt 68, 3) := by decide +kernel
theorem dX10_spare_9 : decode cX10_spare 9 = .ok (.iconst 0, 1) := by decide +kernel
theorem dX10_spare_10 : decode cX10_spare 10 = .ok (.istore 4, 2) := by decide +kernel
theorem dX10_spare_12 : decode cX10_spare 12 = .ok (.iconst 0, 1) := by decide +kernel
theorem dX10_spare_13 : decode cX10_spare 13 = .ok (.istore 5, 2) := by decide +kernel
theorem dX10_spare_15 : decode cX10_spare 15 = .ok (.iload 5, 2) := by decide +kernel
theorem dX10_spare_17 : decode cX10_spare 17 = .ok (.bipush 12, 2) := by decide +kernel
theorem dX10_spare_19 : decode cX10_spare 19 = .ok (.if_icmp .ge 38, 3) := by decide +kernel
theorem dX10_spare_22 : decode cX10_spare 22 = .ok (.iload 4, 2) := by decide +kernel
theorem dX10_spare_24 : decode cX10_spare 24 = .ok (.ifCond .ne 20, 3) := by decide +kernel
theorem dX10_spare_27 : decode cX10_spare 27 = .ok (.iload 5, 2) := by decide +kernel
theorem dX10_spare_29 : decode cX10_spare 29 = .ok (.iload_n 1, 1) := by decide +kernel
theorem dX10_spare_30 : decode cX10_spare 30 = .ok (.if_icmp .eq 18, 3) := by decide +kernel
theorem dX10_spare_33 : decode cX10_spare 33 = .ok (.aload_n 0, 1) := by decide +kernel
theorem dX10_spare_34 : decode cX10_spare 34 = .ok (.getfield 7, 3) := by decide +kernel
theorem dX10_spare_37 : decode cX10_spare 37 = .ok (.iload 5, 2) := by decide +kernel
theorem dX10_spare_39 : decode cX10_spare 39 = .ok (.iaload, 1) := by decide +kernel
theorem dX10_spare_40 : decode cX10_spare 40 = .ok (.iload_n 3, 1) := by decide +kernel
theorem dX10_spare_41 : decode cX10_spare 41 = .ok (.if_icmp .ne 7, 3) := by decide +kernel
theorem dX10_spare_44 : decode cX10_spare 44 = .ok (.iconst 1, 1) := by decide +kernel
theorem dX10_spare_45 : decode cX10_spare 45 = .ok (.goto 4, 3) := by decide +kernel
theorem dX10_spare_48 : decode cX10_spare 48 = .ok (.iconst 0, 1) := by decide +kernel
theorem dX10_spare_49 : decode cX10_spare 49 = .ok (.istore 4, 2) := by decide +kernel
theorem dX10_spare_51 : decode cX10_spare 51 = .ok (.iinc 5 1, 3) := by decide +kernel
theorem dX10_spare_54 : decode cX10_spare 54 = .ok (.goto (-39), 3) := by decide +kernel
theorem dX10_spare_57 : decode cX10_spare 57 = .ok (.iload 4, 2) := by decide +kernel
theorem dX10_spare_59 : decode cX10_spare 59 = .ok (.ifCond .eq 7, 3) := by decide +kernel
theorem dX10_spare_62 : decode cX10_spare 62 = .ok (.iload_n 2, 1) := by decide +kernel
theorem dX10_spare_63 : decode cX10_spare 63 = .ok (.goto 4, 3) := by decide +kernel
theorem dX10_spare_66 : decode cX10_spare 66 = .ok (.iload_n 3, 1) := by decide +kernel
theorem dX10_spare_67 : decode cX10_spare 67 = .ok (.istore_n 2, 1) := by decide +kernel
theorem dX10_spare_68 : decode cX10_spare 68 = .ok (.iinc 3 (-1), 3) := by decide +kernel
theorem dX10_spare_71 : decode cX10_spare 71 = .ok (.goto (-66), 3) := by decide +kernel
theorem dX10_spare_74 : decode cX10_spare 74 = .ok (.iload_n 2, 1) := by decide +kernel
theorem dX10_spare_75 : decode cX10_spare 75 = .ok (.ireturn, 1) := by decide +kernel
theorem dX10_make_0 : decode cX10_make 0 = .ok (.aload_n 0, 1) := by decide +kernel
theorem dX10_make_1 : decode cX10_make 1 = .ok (.iload_n 1, 1) := by decide +kernel
theorem dX10_make_2 : decode cX10_make 2 = .ok (.invokevirtual 145, 3) := by decide +kernel
theorem dX10_make_5 : decode cX10_make 5 = .ok (.istore 4, 2) := by decide +kernel
theorem dX10_make_7 : decode cX10_make 7 = .ok (.aload_n 0, 1) := by decide +kernel
theorem dX10_make_8 : decode cX10_make 8 = .ok (.getfield 7, 3) := by decide +kernel
theorem dX10_make_11 : decode cX10_make 11 = .ok (.iload_n 1, 1) := by decide +kernel
theorem dX10_make_12 : decode cX10_make 12 = .ok (.iload 4, 2) := by decide +kernel
theorem dX10_make_14 : decode cX10_make 14 = .ok (.iastore, 1) := by decide +kernel
theorem dX10_make_15 : decode cX10_make 15 = .ok (.aload_n 0, 1) := by decide +kernel
theorem dX10_make_16 : decode cX10_make 16 = .ok (.getfield 13, 3) := by decide +kernel
theorem dX10_make_19 : decode cX10_make 19 = .ok (.iload 4, 2) := by decide +kernel
theorem dX10_make_21 : decode cX10_make 21 = .ok (.iload_n 2, 1) := by decide +kernel
theorem dX10_make_22 : decode cX10_make 22 = .ok (.iastore, 1) := by decide +kernel
theorem dX10_make_23 : decode cX10_make 23 = .ok (.aload_n 0, 1) := by decide +kernel
theorem dX10_make_24 : decode cX10_make 24 = .ok (.getfield 16, 3) := by decide +kernel
theorem dX10_make_27 : decode cX10_make 27 = .ok (.iload 4, 2) := by decide +kernel
theorem dX10_make_29 : decode cX10_make 29 = .ok (.iload_n 3, 1) := by decide +kernel
theorem dX10_make_30 : decode cX10_make 30 = .ok (.iastore, 1) := by decide +kernel
theorem dX10_make_31 : decode cX10_make 31 = .ok (.iconst 0, 1) := by decide +kernel
theorem dX10_make_32 : decode cX10_make 32 = .ok (.istore 5, 2) := by decide +kernel
theorem dX10_make_34 : decode cX10_make 34 = .ok (.iload 5, 2) := by decide +kernel
theorem dX10_make_36 : decode cX10_make 36 = .ok (.bipush 12, 2) := by decide +kernel
theorem dX10_make_38 : decode cX10_make 38 = .ok (.if_icmp .ge 37, 3) := by decide +kernel
theorem dX10_make_41 : decode cX10_make 41 = .ok (.aload_n 0, 1) := by decide +kernel
theorem dX10_make_42 : decode cX10_make 42 = .ok (.getfield 19, 3) := by decide +kernel
theorem dX10_make_45 : decode cX10_make 45 = .ok (.bipush 12, 2) := by decide +kernel
theorem dX10_make_47 : decode cX10_make 47 = .ok (.iload 4, 2) := by decide +kernel
theorem dX10_make_49 : decode cX10_make 49 = .ok (.imul, 1) := by decide +kernel
theorem dX10_make_50 : decode cX10_make 50 = .ok (.iload 5, 2) := by decide +kernel
theorem dX10_make_52 : decode cX10_make 52 = .ok (.iadd, 1) := by decide +kernel
theorem dX10_make_53 : decode cX10_make 53 = .ok (.lconst 0, 1) := by decide +kernel
theorem dX10_make_54 : decode cX10_make 54 = .ok (.lastore, 1) := by decide +kernel
theorem dX10_make_55 : decode cX10_make 55 = .ok (.aload_n 0, 1) := by decide +kernel
theorem dX10_make_56 : decode cX10_make 56 = .ok (.getfield 23, 3) := by decide +kernel
theorem dX10_make_59 : decode cX10_make 59 = .ok (.bipush 12, 2) := by decide +kernel
theorem dX10_make_61 : decode cX10_make 61 = .ok (.iload 4, 2) := by decide +kernel
theorem dX10_make_63 : decode cX10_make 63 = .ok (.imul, 1) := by decide +kernel
theorem dX10_make_64 : decode cX10_make 64 = .ok (.iload 5, 2) := by decide +kernel
theorem dX10_make_66 : decode cX10_make 66 = .ok (.iadd, 1) := by decide +kernel
theorem dX10_make_67 : decode cX10_make 67 = .ok (.dconst 0, 1) := by decide +kernel
theorem dX10_make_68 : decode cX10_make 68 = .ok (.dastore, 1) := by decide +kernel
theorem dX10_make_69 : decode cX10_make 69 = .ok (.iinc 5 1, 3) := by decide +kernel
theorem dX10_make_72 : decode cX10_make 72 = .ok (.goto (-38), 3) := by decide +kernel
theorem dX10_make_75 : decode cX10_make 75 = .ok (.return_, 1) := by decide +kernel
theorem dX10_as_0 : decode cX10_as 0 = .ok (.iload_n 0, 1) := by decide +kernel
theorem dX10_as_1 : decode cX10_as 1 = .ok (.tableswitch 58 0 4 #[35, 39, 44, 49, 54], 35) := by decide +kernel
theorem dX10_as_36 : decode cX10_as 36 = .ok (.lload_n 1, 1) := by decide +kernel
theorem dX10_as_37 : decode cX10_as 37 = .ok (.lconst 1, 1) := by decide +kernel
theorem dX10_as_38 : decode cX10_as 38 = .ok (.land, 1) := by decide +kernel
theorem dX10_as_39 : decode cX10_as 39 = .ok (.lreturn, 1) := by decide +kernel
theorem dX10_as_40 : decode cX10_as 40 = .ok (.lload_n 1, 1) := by decide +kernel
theorem dX10_as_41 : decode cX10_as 41 = .ok (.l2i, 1) := by decide +kernel
theorem dX10_as_42 : decode cX10_as 42 = .ok (.i2b, 1) := by decide +kernel
theorem dX10_as_43 : decode cX10_as 43 = .ok (.i2l, 1) := by decide +kernel
theorem dX10_as_44 : decode cX10_as 44 = .ok (.lreturn, 1) := by decide +kernel
theorem dX10_as_45 : decode cX10_as 45 = .ok (.lload_n 1, 1) := by decide +kernel
theorem dX10_as_46 : decode cX10_as 46 = .ok (.l2i, 1) := by decide +kernel
theorem dX10_as_47 : decode cX10_as 47 = .ok (.i2s, 1) := by decide +kernel
theorem dX10_as_48 : decode cX10_as 48 = .ok (.i2l, 1) := by decide +kernel
theorem dX10_as_49 : decode cX10_as 49 = .ok (.lreturn, 1) := by decide +kernel
theorem dX10_as_50 : decode cX10_as 50 = .ok (.lload_n 1, 1) := by decide +kernel
theorem dX10_as_51 : decode cX10_as 51 = .ok (.l2i, 1) := by decide +kernel
theorem dX10_as_52 : decode cX10_as 52 = .ok (.i2c, 1) := by decide +kernel
theorem dX10_as_53 : decode cX10_as 53 = .ok (.i2l, 1) := by decide +kernel
theorem dX10_as_54 : decode cX10_as 54 = .ok (.lreturn, 1) := by decide +kernel
theorem dX10_as_55 : decode cX10_as 55 = .ok (.lload_n 1, 1) := by decide +kernel
theorem dX10_as_56 : decode cX10_as 56 = .ok (.l2i, 1) := by decide +kernel
theorem dX10_as_57 : decode cX10_as 57 = .ok (.i2l, 1) := by decide +kernel
theorem dX10_as_58 : decode cX10_as 58 = .ok (.lreturn, 1) := by decide +kernel
theorem dX10_as_59 : decode cX10_as 59 = .ok (.lload_n 1, 1) := by decide +kernel
theorem dX10_as_60 : decode cX10_as 60 = .ok (.lreturn, 1) := by decide +kernel
theorem dX10_asReal_0 : decode cX10_asReal 0 = .ok (.iload_n 0, 1) := by decide +kernel
theorem dX10_asReal_1 : decode cX10_asReal 1 = .ok (.bipush 6, 2) := by decide +kernel
theorem dX10_asReal_3 : decode cX10_asReal 3 = .ok (.if_icmp .ne 9, 3) := by decide +kernel
theorem dX10_asReal_6 : decode cX10_asReal 6 = .ok (.lload_n 1, 1) := by decide +kernel
theorem dX10_asReal_7 : decode cX10_asReal 7 = .ok (.l2f, 1) := by decide +kernel
theorem dX10_asReal_8 : decode cX10_asReal 8 = .ok (.f2d, 1) := by decide +kernel
theorem dX10_asReal_9 : decode cX10_asReal 9 = .ok (.goto 5, 3) := by decide +kernel
theorem dX10_asReal_12 : decode cX10_asReal 12 = .ok (.lload_n 1, 1) := by decide +kernel
theorem dX10_asReal_13 : decode cX10_asReal 13 = .ok (.l2d, 1) := by decide +kernel
theorem dX10_asReal_14 : decode cX10_asReal 14 = .ok (.dreturn, 1) := by decide +kernel
theorem dX10_lay_0 : decode cX10_lay 0 = .ok (.aload_n 0, 1) := by decide +kernel
theorem dX10_lay_1 : decode cX10_lay 1 = .ok (.getfield 13, 3) := by decide +kernel
theorem dX10_lay_4 : decode cX10_lay 4 = .ok (.iload_n 1, 1) := by decide +kernel
theorem dX10_lay_5 : decode cX10_lay 5 = .ok (.iaload, 1) := by decide +kernel
theorem dX10_lay_6 : decode cX10_lay 6 = .ok (.bipush 6, 2) := by decide +kernel
theorem dX10_lay_8 : decode cX10_lay 8 = .ok (.if_icmp .ge 27, 3) := by decide +kernel
theorem dX10_lay_11 : decode cX10_lay 11 = .ok (.aload_n 0, 1) := by decide +kernel
theorem dX10_lay_12 : decode cX10_lay 12 = .ok (.getfield 19, 3) := by decide +kernel
theorem dX10_lay_15 : decode cX10_lay 15 = .ok (.bipush 12, 2) := by decide +kernel
theorem dX10_lay_17 : decode cX10_lay 17 = .ok (.iload_n 1, 1) := by decide +kernel
theorem dX10_lay_18 : decode cX10_lay 18 = .ok (.imul, 1) := by decide +kernel
theorem dX10_lay_19 : decode cX10_lay 19 = .ok (.iload_n 2, 1) := by decide +kernel
theorem dX10_lay_20 : decode cX10_lay 20 = .ok (.iadd, 1) := by decide +kernel
theorem dX10_lay_21 : decode cX10_lay 21 = .ok (.aload_n 0, 1) := by decide +kernel
theorem dX10_lay_22 : decode cX10_lay 22 = .ok (.getfield 13, 3) := by decide +kernel
theorem dX10_lay_25 : decode cX10_lay 25 = .ok (.iload_n 1, 1) := by decide +kernel
theorem dX10_lay_26 : decode cX10_lay 26 = .ok (.iaload, 1) := by decide +kernel
theorem dX10_lay_27 : decode cX10_lay 27 = .ok (.lload_n 3, 1) := by decide +kernel
theorem dX10_lay_28 : decode cX10_lay 28 = .ok (.invokestatic 149, 3) := by decide +kernel
theorem dX10_lay_31 : decode cX10_lay 31 = .ok (.lastore, 1) := by decide +kernel
theorem dX10_lay_32 : decode cX10_lay 32 = .ok (.goto 24, 3) := by decide +kernel
theorem dX10_lay_35 : decode cX10_lay 35 = .ok (.aload_n 0, 1) := by decide +kernel
theorem dX10_lay_36 : decode cX10_lay 36 = .ok (.getfield 23, 3) := by decide +kernel
theorem dX10_lay_39 : decode cX10_lay 39 = .ok (.bipush 12, 2) := by decide +kernel
theorem dX10_lay_41 : decode cX10_lay 41 = .ok (.iload_n 1, 1) := by decide +kernel
theorem dX10_lay_42 : decode cX10_lay 42 = .ok (.imul, 1) := by decide +kernel
theorem dX10_lay_43 : decode cX10_lay 43 = .ok (.iload_n 2, 1) := by decide +kernel
theorem dX10_lay_44 : decode cX10_lay 44 = .ok (.iadd, 1) := by decide +kernel
theorem dX10_lay_45 : decode cX10_lay 45 = .ok (.aload_n 0, 1) := by decide +kernel
theorem dX10_lay_46 : decode cX10_lay 46 = .ok (.getfield 13, 3) := by decide +kernel
theorem dX10_lay_49 : decode cX10_lay 49 = .ok (.iload_n 1, 1) := by decide +kernel
theorem dX10_lay_50 : decode cX10_lay 50 = .ok (.iaload, 1) := by decide +kernel
theorem dX10_lay_51 : decode cX10_lay 51 = .ok (.lload_n 3, 1) := by decide +kernel
theorem dX10_lay_52 : decode cX10_lay 52 = .ok (.invokestatic 152, 3) := by decide +kernel
theorem dX10_lay_55 : decode cX10_lay 55 = .ok (.dastore, 1) := by decide +kernel
theorem dX10_lay_56 : decode cX10_lay 56 = .ok (.return_, 1) := by decide +kernel
theorem dX10_valueAt_0 : decode cX10_valueAt 0 = .ok (.aload_n 0, 1) := by decide +kernel
theorem dX10_valueAt_1 : decode cX10_valueAt 1 = .ok (.getfield 13, 3) := by decide +kernel
theorem dX10_valueAt_4 : decode cX10_valueAt 4 = .ok (.iload_n 1, 1) := by decide +kernel
theorem dX10_valueAt_5 : decode cX10_valueAt 5 = .ok (.iaload, 1) := by decide +kernel
theorem dX10_valueAt_6 : decode cX10_valueAt 6 = .ok (.bipush 6, 2) := by decide +kernel
theorem dX10_valueAt_8 : decode cX10_valueAt 8 = .ok (.if_icmp .ge 17, 3) := by decide +kernel
theorem dX10_valueAt_11 : decode cX10_valueAt 11 = .ok (.aload_n 0, 1) := by decide +kernel
theorem dX10_valueAt_12 : decode cX10_valueAt 12 = .ok (.getfield 19, 3) := by decide +kernel
theorem dX10_valueAt_15 : decode cX10_valueAt 15 = .ok (.bipush 12, 2) := by decide +kernel
theorem dX10_valueAt_17 : decode cX10_valueAt 17 = .ok (.iload_n 1, 1) := by decide +kernel
theorem dX10_valueAt_18 : decode cX10_valueAt 18 = .ok (.imul, 1) := by decide +kernel
theorem dX10_valueAt_19 : decode cX10_valueAt 19 = .ok (.iload_n 2, 1) := by decide +kernel
theorem dX10_valueAt_20 : decode cX10_valueAt 20 = .ok (.iadd, 1) := by decide +kernel
theorem dX10_valueAt_21 : decode cX10_valueAt 21 = .ok (.laload, 1) := by decide +kernel
theorem dX10_valueAt_22 : decode cX10_valueAt 22 = .ok (.goto 15, 3) := by decide +kernel
theorem dX10_valueAt_25 : decode cX10_valueAt 25 = .ok (.aload_n 0, 1) := by decide +kernel
theorem dX10_valueAt_26 : decode cX10_valueAt 26 = .ok (.getfield 23, 3) := by decide +kernel
theorem dX10_valueAt_29 : decode cX10_valueAt 29 = .ok (.bipush 12, 2) := by decide +kernel
theorem dX10_valueAt_31 : decode cX10_valueAt 31 = .ok (.iload_n 1, 1) := by decide +kernel
theorem dX10_valueAt_32 : decode cX10_valueAt 32 = .ok (.imul, 1) := by decide +kernel
theorem dX10_valueAt_33 : decode cX10_valueAt 33 = .ok (.iload_n 2, 1) := by decide +kernel
theorem dX10_valueAt_34 : decode cX10_valueAt 34 = .ok (.iadd, 1) := by decide +kernel
theorem dX10_valueAt_35 : decode cX10_valueAt 35 = .ok (.daload, 1) := by decide +kernel
theorem dX10_valueAt_36 : decode cX10_valueAt 36 = .ok (.d2l, 1) := by decide +kernel
theorem dX10_valueAt_37 : decode cX10_valueAt 37 = .ok (.lreturn, 1) := by decide +kernel
theorem dX10_goesInto_0 : decode cX10_goesInto 0 = .ok (.iload_n 0, 1) := by decide +kernel
theorem dX10_goesInto_1 : decode cX10_goesInto 1 = .ok (.iconst 1, 1) := by decide +kernel
theorem dX10_goesInto_2 : decode cX10_goesInto 2 = .ok (.if_icmp .ne 13, 3) := by decide +kernel
theorem dX10_goesInto_5 : decode cX10_goesInto 5 = .ok (.iload_n 1, 1) := by decide +kernel
theorem dX10_goesInto_6 : decode cX10_goesInto 6 = .ok (.iconst 1, 1) := by decide +kernel
theorem dX10_goesInto_7 : decode cX10_goesInto 7 = .ok (.if_icmp .le 8, 3) := by decide +kernel
theorem dX10_goesInto_10 : decode cX10_goesInto 10 = .ok (.iload_n 1, 1) := by decide +kernel
theorem dX10_goesInto_11 : decode cX10_goesInto 11 = .ok (.iconst 3, 1) := by decide +kernel
theorem dX10_goesInto_12 : decode cX10_goesInto 12 = .ok (.if_icmp .ne 34, 3) := by decide +kernel
theorem dX10_goesInto_15 : decode cX10_goesInto 15 = .ok (.iload_n 0, 1) := by decide +kernel
theorem dX10_goesInto_16 : decode cX10_goesInto 16 = .ok (.iconst 2, 1) := by decide +kernel
theorem dX10_goesInto_17 : decode cX10_goesInto 17 = .ok (.if_icmp .eq 8, 3) := by decide +kernel
theorem dX10_goesInto_20 : decode cX10_goesInto 20 = .ok (.iload_n 0, 1) := by decide +kernel
theorem dX10_goesInto_21 : decode cX10_goesInto 21 = .ok (.iconst 3, 1) := by decide +kernel
theorem dX10_goesInto_22 : decode cX10_goesInto 22 = .ok (.if_icmp .ne 8, 3) := by decide +kernel
theorem dX10_goesInto_25 : decode cX10_goesInto 25 = .ok (.iload_n 1, 1) := by decide +kernel
theorem dX10_goesInto_26 : decode cX10_goesInto 26 = .ok (.iconst 3, 1) := by decide +kernel
theorem dX10_goesInto_27 : decode cX10_goesInto 27 = .ok (.if_icmp .gt 19, 3) := by decide +kernel
theorem dX10_goesInto_30 : decode cX10_goesInto 30 = .ok (.iload_n 0, 1) := by decide +kernel
theorem dX10_goesInto_31 : decode cX10_goesInto 31 = .ok (.iconst 3, 1) := by decide +kernel
theorem dX10_goesInto_32 : decode cX10_goesInto 32 = .ok (.if_icmp .le 18, 3) := by decide +kernel
theorem dX10_goesInto_35 : decode cX10_goesInto 35 = .ok (.iload_n 0, 1) := by decide +kernel
theorem dX10_goesInto_36 : decode cX10_goesInto 36 = .ok (.bipush 7, 2) := by decide +kernel
theorem dX10_goesInto_38 : decode cX10_goesInto 38 = .ok (.if_icmp .ge 12, 3) := by decide +kernel
theorem dX10_goesInto_41 : decode cX10_goesInto 41 = .ok (.iload_n 1, 1) := by decide +kernel
theorem dX10_goesInto_42 : decode cX10_goesInto 42 = .ok (.iload_n 0, 1) := by decide +kernel
theorem dX10_goesInto_43 : decode cX10_goesInto 43 = .ok (.if_icmp .le 7, 3) := by decide +kernel
theorem dX10_goesInto_46 : decode cX10_goesInto 46 = .ok (.iconst 1, 1) := by decide +kernel
theorem dX10_goesInto_47 : decode cX10_goesInto 47 = .ok (.goto 4, 3) := by decide +kernel
theorem dX10_goesInto_50 : decode cX10_goesInto 50 = .ok (.iconst 0, 1) := by decide +kernel
theorem dX10_goesInto_51 : decode cX10_goesInto 51 = .ok (.ireturn, 1) := by decide +kernel
theorem dX10_against_0 : decode cX10_against 0 = .ok (.aload_n 0, 1) := by decide +kernel
theorem dX10_against_1 : decode cX10_against 1 = .ok (.getfield 7, 3) := by decide +kernel
theorem dX10_against_4 : decode cX10_against 4 = .ok (.iload_n 1, 1) := by decide +kernel
theorem dX10_against_5 : decode cX10_against 5 = .ok (.iaload, 1) := by decide +kernel
theorem dX10_against_6 : decode cX10_against 6 = .ok (.iconst (-1), 1) := by decide +kernel
theorem dX10_against_7 : decode cX10_against 7 = .ok (.if_icmp .ne 7, 3) := by decide +kernel
theorem dX10_against_10 : decode cX10_against 10 = .ok (.iconst 1, 1) := by decide +kernel
theorem dX10_against_11 : decode cX10_against 11 = .ok (.goto 30, 3) := by decide +kernel
theorem dX10_against_14 : decode cX10_against 14 = .ok (.lload_n 2, 1) := by decide +kernel
theorem dX10_against_15 : decode cX10_against 15 = .ok (.lconst 0, 1) := by decide +kernel
theorem dX10_against_16 : decode cX10_against 16 = .ok (.aload_n 0, 1) := by decide +kernel
theorem dX10_against_17 : decode cX10_against 17 = .ok (.getfield 16, 3) := by decide +kernel
theorem dX10_against_20 : decode cX10_against 20 = .ok (.aload_n 0, 1) := by decide +kernel
theorem dX10_against_21 : decode cX10_against 21 = .ok (.getfield 7, 3) := by decide +kernel
theorem dX10_against_24 : decode cX10_against 24 = .ok (.iload_n 1, 1) := by decide +kernel
theorem dX10_against_25 : decode cX10_against 25 = .ok (.iaload, 1) := by decide +kernel
theorem dX10_against_26 : decode cX10_against 26 = .ok (.iaload, 1) := by decide +kernel
theorem dX10_against_27 : decode cX10_against 27 = .ok (.i2l, 1) := by decide +kernel
theorem dX10_against_28 : decode cX10_against 28 = .ok (.lconst 1, 1) := by decide +kernel
theorem dX10_against_29 : decode cX10_against 29 = .ok (.lsub, 1) := by decide +kernel
theorem dX10_against_30 : decode cX10_against 30 = .ok (.invokestatic 139, 3) := by decide +kernel
theorem dX10_against_33 : decode cX10_against 33 = .ok (.ifCond .eq 7, 3) := by decide +kernel
theorem dX10_against_36 : decode cX10_against 36 = .ok (.iconst 0, 1) := by decide +kernel
theorem dX10_against_37 : decode cX10_against 37 = .ok (.goto 4, 3) := by decide +kernel
theorem dX10_against_40 : decode cX10_against 40 = .ok (.iconst 2, 1) := by decide +kernel
theorem dX10_against_41 : decode cX10_against 41 = .ok (.ireturn, 1) := by decide +kernel
theorem dX10_row_0 : decode cX10_row 0 = .ok (.iload_n 1, 1) := by decide +kernel
theorem dX10_row_1 : decode cX10_row 1 = .ok (.invokestatic 156, 3) := by decide +kernel
theorem dX10_row_4 : decode cX10_row 4 = .ok (.ifCond .eq 10, 3) := by decide +kernel
theorem dX10_row_7 : decode cX10_row 7 = .ok (.iload_n 2, 1) := by decide +kernel
theorem dX10_row_8 : decode cX10_row 8 = .ok (.invokestatic 160, 3) := by decide +kernel
theorem dX10_row_11 : decode cX10_row 11 = .ok (.ifCond .ne 6, 3) := by decide +kernel
theorem dX10_row_14 : decode cX10_row 14 = .ok (.ldc 163, 2) := by decide +kernel
theorem dX10_row_16 : decode cX10_row 16 = .ok (.ireturn, 1) := by decide +kernel
theorem dX10_row_17 : decode cX10_row 17 = .ok (.iload_n 3, 1) := by decide +kernel
theorem dX10_row_18 : decode cX10_row 18 = .ok (.ifCond .lt 9, 3) := by decide +kernel
theorem dX10_row_21 : decode cX10_row 21 = .ok (.iload_n 3, 1) := by decide +kernel
theorem dX10_row_22 : decode cX10_row 22 = .ok (.bipush 12, 2) := by decide +kernel
theorem dX10_row_24 : decode cX10_row 24 = .ok (.if_icmp .le 15, 3) := by decide +kernel
theorem dX10_row_27 : decode cX10_row 27 = .ok (.iload_n 3, 1) := by decide +kernel
theorem dX10_row_28 : decode cX10_row 28 = .ok (.ifCond .ge 8, 3) := by decide +kernel
theorem dX10_row_31 : decode cX10_row 31 = .ok (.bipush (-15), 2) := by decide +kernel
theorem dX10_row_33 : decode cX10_row 33 = .ok (.goto 5, 3) := by decide +kernel
theorem dX10_row_36 : decode cX10_row 36 = .ok (.bipush (-17), 2) := by decide +kernel
theorem dX10_row_38 : decode cX10_row 38 = .ok (.ireturn, 1) := by decide +kernel
theorem dX10_row_39 : decode cX10_row 39 = .ok (.aload_n 0, 1) := by decide +kernel
theorem dX10_row_40 : decode cX10_row 40 = .ok (.iload_n 1, 1) := by decide +kernel
