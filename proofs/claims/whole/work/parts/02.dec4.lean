theorem d_Mo_work_193 : decode b_Mo_work 193 = .ok (.iconst 2, 1) := by decide +kernel
theorem d_Mo_work_194 : decode b_Mo_work 194 = .ok (.iaload, 1) := by decide +kernel
theorem d_Mo_work_195 : decode b_Mo_work 195 = .ok (.goto 11, 3) := by decide +kernel
theorem d_Mo_work_198 : decode b_Mo_work 198 = .ok (.iconst 1, 1) := by decide +kernel
theorem d_Mo_work_199 : decode b_Mo_work 199 = .ok (.aload_n 0, 1) := by decide +kernel
theorem d_Mo_work_200 : decode b_Mo_work 200 = .ok (.getfield 46, 3) := by decide +kernel
theorem d_Mo_work_203 : decode b_Mo_work 203 = .ok (.iconst 2, 1) := by decide +kernel
theorem d_Mo_work_204 : decode b_Mo_work 204 = .ok (.iaload, 1) := by decide +kernel
theorem d_Mo_work_205 : decode b_Mo_work 205 = .ok (.isub, 1) := by decide +kernel
theorem d_Mo_work_206 : decode b_Mo_work 206 = .ok (.istore 6, 2) := by decide +kernel
theorem d_Mo_work_208 : decode b_Mo_work 208 = .ok (.aload_n 0, 1) := by decide +kernel
theorem d_Mo_work_209 : decode b_Mo_work 209 = .ok (.iload_n 1, 1) := by decide +kernel
theorem d_Mo_work_210 : decode b_Mo_work 210 = .ok (.iload_n 3, 1) := by decide +kernel
theorem d_Mo_work_211 : decode b_Mo_work 211 = .ok (.iload 6, 2) := by decide +kernel
theorem d_Mo_work_213 : decode b_Mo_work 213 = .ok (.iload 6, 2) := by decide +kernel
theorem d_Mo_work_215 : decode b_Mo_work 215 = .ok (.ifCond .ne 8, 3) := by decide +kernel
theorem d_Mo_work_218 : decode b_Mo_work 218 = .ok (.iload 4, 2) := by decide +kernel
theorem d_Mo_work_220 : decode b_Mo_work 220 = .ok (.goto 7, 3) := by decide +kernel
theorem d_Mo_work_223 : decode b_Mo_work 223 = .ok (.iload 4, 2) := by decide +kernel
theorem d_Mo_work_225 : decode b_Mo_work 225 = .ok (.iconst 1, 1) := by decide +kernel
theorem d_Mo_work_226 : decode b_Mo_work 226 = .ok (.iadd, 1) := by decide +kernel
theorem d_Mo_work_227 : decode b_Mo_work 227 = .ok (.invokevirtual 181, 3) := by decide +kernel
theorem d_Mo_work_230 : decode b_Mo_work 230 = .ok (.istore 7, 2) := by decide +kernel
theorem d_Mo_work_232 : decode b_Mo_work 232 = .ok (.aload_n 0, 1) := by decide +kernel
theorem d_Mo_work_233 : decode b_Mo_work 233 = .ok (.getfield 20, 3) := by decide +kernel
theorem d_Mo_work_236 : decode b_Mo_work 236 = .ok (.iload_n 3, 1) := by decide +kernel
theorem d_Mo_work_237 : decode b_Mo_work 237 = .ok (.aload_n 0, 1) := by decide +kernel
theorem d_Mo_work_238 : decode b_Mo_work 238 = .ok (.getfield 20, 3) := by decide +kernel
theorem d_Mo_work_241 : decode b_Mo_work 241 = .ok (.iload_n 3, 1) := by decide +kernel
theorem d_Mo_work_242 : decode b_Mo_work 242 = .ok (.laload, 1) := by decide +kernel
theorem d_Mo_work_243 : decode b_Mo_work 243 = .ok (.aload_n 0, 1) := by decide +kernel
theorem d_Mo_work_244 : decode b_Mo_work 244 = .ok (.getfield 64, 3) := by decide +kernel
theorem d_Mo_work_247 : decode b_Mo_work 247 = .ok (.iload 7, 2) := by decide +kernel
theorem d_Mo_work_249 : decode b_Mo_work 249 = .ok (.iaload, 1) := by decide +kernel
theorem d_Mo_work_250 : decode b_Mo_work 250 = .ok (.iconst 2, 1) := by decide +kernel
theorem d_Mo_work_251 : decode b_Mo_work 251 = .ok (.if_icmp .ne 8, 3) := by decide +kernel
theorem d_Mo_work_254 : decode b_Mo_work 254 = .ok (.bipush 50, 2) := by decide +kernel
theorem d_Mo_work_256 : decode b_Mo_work 256 = .ok (.goto 11, 3) := by decide +kernel
theorem d_Mo_work_259 : decode b_Mo_work 259 = .ok (.aload_n 0, 1) := by decide +kernel
theorem d_Mo_work_260 : decode b_Mo_work 260 = .ok (.iload 7, 2) := by decide +kernel
theorem d_Mo_work_262 : decode b_Mo_work 262 = .ok (.invokevirtual 168, 3) := by decide +kernel
theorem d_Mo_work_265 : decode b_Mo_work 265 = .ok (.iload_n 2, 1) := by decide +kernel
theorem d_Mo_work_266 : decode b_Mo_work 266 = .ok (.isub, 1) := by decide +kernel
theorem d_Mo_work_267 : decode b_Mo_work 267 = .ok (.i2l, 1) := by decide +kernel
theorem d_Mo_work_268 : decode b_Mo_work 268 = .ok (.ladd, 1) := by decide +kernel
theorem d_Mo_work_269 : decode b_Mo_work 269 = .ok (.lastore, 1) := by decide +kernel
theorem d_Mo_work_270 : decode b_Mo_work 270 = .ok (.iinc 5 1, 3) := by decide +kernel
theorem d_Mo_work_273 : decode b_Mo_work 273 = .ok (.goto (-95), 3) := by decide +kernel
theorem d_Mo_work_276 : decode b_Mo_work 276 = .ok (.aload_n 0, 1) := by decide +kernel
theorem d_Mo_work_277 : decode b_Mo_work 277 = .ok (.getfield 24, 3) := by decide +kernel
theorem d_Mo_work_280 : decode b_Mo_work 280 = .ok (.iload_n 3, 1) := by decide +kernel
theorem d_Mo_work_281 : decode b_Mo_work 281 = .ok (.aload_n 0, 1) := by decide +kernel
theorem d_Mo_work_282 : decode b_Mo_work 282 = .ok (.getfield 24, 3) := by decide +kernel
theorem d_Mo_work_285 : decode b_Mo_work 285 = .ok (.iload_n 3, 1) := by decide +kernel
theorem d_Mo_work_286 : decode b_Mo_work 286 = .ok (.iaload, 1) := by decide +kernel
theorem d_Mo_work_287 : decode b_Mo_work 287 = .ok (.iconst 2, 1) := by decide +kernel
theorem d_Mo_work_288 : decode b_Mo_work 288 = .ok (.iadd, 1) := by decide +kernel
theorem d_Mo_work_289 : decode b_Mo_work 289 = .ok (.iastore, 1) := by decide +kernel
theorem d_Mo_work_290 : decode b_Mo_work 290 = .ok (.iconst 1, 1) := by decide +kernel
theorem d_Mo_work_291 : decode b_Mo_work 291 = .ok (.ireturn, 1) := by decide +kernel
theorem d_Mo_choose_0 : decode b_Mo_choose 0 = .ok (.iconst (-1), 1) := by decide +kernel
theorem d_Mo_choose_1 : decode b_Mo_choose 1 = .ok (.istore_n 2, 1) := by decide +kernel
theorem d_Mo_choose_2 : decode b_Mo_choose 2 = .ok (.iconst 0, 1) := by decide +kernel
theorem d_Mo_choose_3 : decode b_Mo_choose 3 = .ok (.istore_n 3, 1) := by decide +kernel
theorem d_Mo_choose_4 : decode b_Mo_choose 4 = .ok (.iload_n 3, 1) := by decide +kernel
theorem d_Mo_choose_5 : decode b_Mo_choose 5 = .ok (.aload_n 0, 1) := by decide +kernel
theorem d_Mo_choose_6 : decode b_Mo_choose 6 = .ok (.getfield 85, 3) := by decide +kernel
theorem d_Mo_choose_9 : decode b_Mo_choose 9 = .ok (.if_icmp .ge 59, 3) := by decide +kernel
theorem d_Mo_choose_12 : decode b_Mo_choose 12 = .ok (.aload_n 0, 1) := by decide +kernel
theorem d_Mo_choose_13 : decode b_Mo_choose 13 = .ok (.getfield 73, 3) := by decide +kernel
theorem d_Mo_choose_16 : decode b_Mo_choose 16 = .ok (.bipush 8, 2) := by decide +kernel
theorem d_Mo_choose_18 : decode b_Mo_choose 18 = .ok (.iload_n 1, 1) := by decide +kernel
theorem d_Mo_choose_19 : decode b_Mo_choose 19 = .ok (.imul, 1) := by decide +kernel
theorem d_Mo_choose_20 : decode b_Mo_choose 20 = .ok (.iload_n 3, 1) := by decide +kernel
theorem d_Mo_choose_21 : decode b_Mo_choose 21 = .ok (.iadd, 1) := by decide +kernel
theorem d_Mo_choose_22 : decode b_Mo_choose 22 = .ok (.iaload, 1) := by decide +kernel
theorem d_Mo_choose_23 : decode b_Mo_choose 23 = .ok (.aload_n 0, 1) := by decide +kernel
theorem d_Mo_choose_24 : decode b_Mo_choose 24 = .ok (.getfield 76, 3) := by decide +kernel
theorem d_Mo_choose_27 : decode b_Mo_choose 27 = .ok (.bipush 8, 2) := by decide +kernel
theorem d_Mo_choose_29 : decode b_Mo_choose 29 = .ok (.iload_n 1, 1) := by decide +kernel
theorem d_Mo_choose_30 : decode b_Mo_choose 30 = .ok (.imul, 1) := by decide +kernel
theorem d_Mo_choose_31 : decode b_Mo_choose 31 = .ok (.iload_n 3, 1) := by decide +kernel
theorem d_Mo_choose_32 : decode b_Mo_choose 32 = .ok (.iadd, 1) := by decide +kernel
theorem d_Mo_choose_33 : decode b_Mo_choose 33 = .ok (.iaload, 1) := by decide +kernel
theorem d_Mo_choose_34 : decode b_Mo_choose 34 = .ok (.if_icmp .ge 28, 3) := by decide +kernel
theorem d_Mo_choose_37 : decode b_Mo_choose 37 = .ok (.iload_n 2, 1) := by decide +kernel
theorem d_Mo_choose_38 : decode b_Mo_choose 38 = .ok (.ifCond .lt 18, 3) := by decide +kernel
theorem d_Mo_choose_41 : decode b_Mo_choose 41 = .ok (.aload_n 0, 1) := by decide +kernel
theorem d_Mo_choose_42 : decode b_Mo_choose 42 = .ok (.iload_n 1, 1) := by decide +kernel
theorem d_Mo_choose_43 : decode b_Mo_choose 43 = .ok (.iload_n 3, 1) := by decide +kernel
theorem d_Mo_choose_44 : decode b_Mo_choose 44 = .ok (.invokevirtual 175, 3) := by decide +kernel
theorem d_Mo_choose_47 : decode b_Mo_choose 47 = .ok (.aload_n 0, 1) := by decide +kernel
theorem d_Mo_choose_48 : decode b_Mo_choose 48 = .ok (.iload_n 1, 1) := by decide +kernel
theorem d_Mo_choose_49 : decode b_Mo_choose 49 = .ok (.iload_n 2, 1) := by decide +kernel
theorem d_Mo_choose_50 : decode b_Mo_choose 50 = .ok (.invokevirtual 175, 3) := by decide +kernel
theorem d_Mo_choose_53 : decode b_Mo_choose 53 = .ok (.if_icmp .le 7, 3) := by decide +kernel
theorem d_Mo_choose_56 : decode b_Mo_choose 56 = .ok (.iload_n 3, 1) := by decide +kernel
theorem d_Mo_choose_57 : decode b_Mo_choose 57 = .ok (.goto 4, 3) := by decide +kernel
theorem d_Mo_choose_60 : decode b_Mo_choose 60 = .ok (.iload_n 2, 1) := by decide +kernel
theorem d_Mo_choose_61 : decode b_Mo_choose 61 = .ok (.istore_n 2, 1) := by decide +kernel
theorem d_Mo_choose_62 : decode b_Mo_choose 62 = .ok (.iinc 3 1, 3) := by decide +kernel
theorem d_Mo_choose_65 : decode b_Mo_choose 65 = .ok (.goto (-61), 3) := by decide +kernel
theorem d_Mo_choose_68 : decode b_Mo_choose 68 = .ok (.iload_n 2, 1) := by decide +kernel
theorem d_Mo_choose_69 : decode b_Mo_choose 69 = .ok (.ireturn, 1) := by decide +kernel
theorem d_Mo_worth_0 : decode b_Mo_worth 0 = .ok (.aload_n 0, 1) := by decide +kernel
theorem d_Mo_worth_1 : decode b_Mo_worth 1 = .ok (.getfield 27, 3) := by decide +kernel
theorem d_Mo_worth_4 : decode b_Mo_worth 4 = .ok (.iload_n 2, 1) := by decide +kernel
theorem d_Mo_worth_5 : decode b_Mo_worth 5 = .ok (.iaload, 1) := by decide +kernel
theorem d_Mo_worth_6 : decode b_Mo_worth 6 = .ok (.istore_n 3, 1) := by decide +kernel
theorem d_Mo_worth_7 : decode b_Mo_worth 7 = .ok (.aload_n 0, 1) := by decide +kernel
theorem d_Mo_worth_8 : decode b_Mo_worth 8 = .ok (.getfield 46, 3) := by decide +kernel
theorem d_Mo_worth_11 : decode b_Mo_worth 11 = .ok (.iconst 1, 1) := by decide +kernel
theorem d_Mo_worth_12 : decode b_Mo_worth 12 = .ok (.iaload, 1) := by decide +kernel
theorem d_Mo_worth_13 : decode b_Mo_worth 13 = .ok (.ifCond .ne 7, 3) := by decide +kernel
theorem d_Mo_worth_16 : decode b_Mo_worth 16 = .ok (.iconst 0, 1) := by decide +kernel
theorem d_Mo_worth_17 : decode b_Mo_worth 17 = .ok (.goto 67, 3) := by decide +kernel
theorem d_Mo_worth_20 : decode b_Mo_worth 20 = .ok (.aload_n 0, 1) := by decide +kernel
theorem d_Mo_worth_21 : decode b_Mo_worth 21 = .ok (.getfield 46, 3) := by decide +kernel
theorem d_Mo_worth_24 : decode b_Mo_worth 24 = .ok (.iconst 1, 1) := by decide +kernel
theorem d_Mo_worth_25 : decode b_Mo_worth 25 = .ok (.iaload, 1) := by decide +kernel
theorem d_Mo_worth_26 : decode b_Mo_worth 26 = .ok (.iconst 1, 1) := by decide +kernel
theorem d_Mo_worth_27 : decode b_Mo_worth 27 = .ok (.if_icmp .ne 29, 3) := by decide +kernel
theorem d_Mo_worth_30 : decode b_Mo_worth 30 = .ok (.aload_n 0, 1) := by decide +kernel
theorem d_Mo_worth_31 : decode b_Mo_worth 31 = .ok (.getfield 73, 3) := by decide +kernel
theorem d_Mo_worth_34 : decode b_Mo_worth 34 = .ok (.bipush 8, 2) := by decide +kernel
theorem d_Mo_worth_36 : decode b_Mo_worth 36 = .ok (.iload_n 1, 1) := by decide +kernel
theorem d_Mo_worth_37 : decode b_Mo_worth 37 = .ok (.imul, 1) := by decide +kernel
theorem d_Mo_worth_38 : decode b_Mo_worth 38 = .ok (.iload_n 2, 1) := by decide +kernel
theorem d_Mo_worth_39 : decode b_Mo_worth 39 = .ok (.iadd, 1) := by decide +kernel
theorem d_Mo_worth_40 : decode b_Mo_worth 40 = .ok (.iaload, 1) := by decide +kernel
theorem d_Mo_worth_41 : decode b_Mo_worth 41 = .ok (.aload_n 0, 1) := by decide +kernel
theorem d_Mo_worth_42 : decode b_Mo_worth 42 = .ok (.getfield 76, 3) := by decide +kernel
theorem d_Mo_worth_45 : decode b_Mo_worth 45 = .ok (.bipush 8, 2) := by decide +kernel
theorem d_Mo_worth_47 : decode b_Mo_worth 47 = .ok (.iload_n 1, 1) := by decide +kernel
theorem d_Mo_worth_48 : decode b_Mo_worth 48 = .ok (.imul, 1) := by decide +kernel
theorem d_Mo_worth_49 : decode b_Mo_worth 49 = .ok (.iload_n 2, 1) := by decide +kernel
theorem d_Mo_worth_50 : decode b_Mo_worth 50 = .ok (.iadd, 1) := by decide +kernel
theorem d_Mo_worth_51 : decode b_Mo_worth 51 = .ok (.iaload, 1) := by decide +kernel
theorem d_Mo_worth_52 : decode b_Mo_worth 52 = .ok (.isub, 1) := by decide +kernel
theorem d_Mo_worth_53 : decode b_Mo_worth 53 = .ok (.goto 31, 3) := by decide +kernel
theorem d_Mo_worth_56 : decode b_Mo_worth 56 = .ok (.aload_n 0, 1) := by decide +kernel
theorem d_Mo_worth_57 : decode b_Mo_worth 57 = .ok (.getfield 46, 3) := by decide +kernel
theorem d_Mo_worth_60 : decode b_Mo_worth 60 = .ok (.iconst 1, 1) := by decide +kernel
theorem d_Mo_worth_61 : decode b_Mo_worth 61 = .ok (.iaload, 1) := by decide +kernel
theorem d_Mo_worth_62 : decode b_Mo_worth 62 = .ok (.iconst 2, 1) := by decide +kernel
theorem d_Mo_worth_63 : decode b_Mo_worth 63 = .ok (.if_icmp .ne 11, 3) := by decide +kernel
theorem d_Mo_worth_66 : decode b_Mo_worth 66 = .ok (.aload_n 0, 1) := by decide +kernel
theorem d_Mo_worth_67 : decode b_Mo_worth 67 = .ok (.iload_n 2, 1) := by decide +kernel
theorem d_Mo_worth_68 : decode b_Mo_worth 68 = .ok (.invokevirtual 172, 3) := by decide +kernel
theorem d_Mo_worth_71 : decode b_Mo_worth 71 = .ok (.goto 13, 3) := by decide +kernel
theorem d_Mo_worth_74 : decode b_Mo_worth 74 = .ok (.iload_n 3, 1) := by decide +kernel
theorem d_Mo_worth_75 : decode b_Mo_worth 75 = .ok (.ifCond .ge 8, 3) := by decide +kernel
theorem d_Mo_worth_78 : decode b_Mo_worth 78 = .ok (.iload_n 3, 1) := by decide +kernel
theorem d_Mo_worth_79 : decode b_Mo_worth 79 = .ok (.ineg, 1) := by decide +kernel
theorem d_Mo_worth_80 : decode b_Mo_worth 80 = .ok (.goto 4, 3) := by decide +kernel
theorem d_Mo_worth_83 : decode b_Mo_worth 83 = .ok (.iload_n 3, 1) := by decide +kernel
theorem d_Mo_worth_84 : decode b_Mo_worth 84 = .ok (.ireturn, 1) := by decide +kernel
theorem d_Mo_priceOf_0 : decode b_Mo_priceOf 0 = .ok (.aload_n 0, 1) := by decide +kernel
theorem d_Mo_priceOf_1 : decode b_Mo_priceOf 1 = .ok (.getfield 24, 3) := by decide +kernel
theorem d_Mo_priceOf_4 : decode b_Mo_priceOf 4 = .ok (.iload_n 1, 1) := by decide +kernel
theorem d_Mo_priceOf_5 : decode b_Mo_priceOf 5 = .ok (.iaload, 1) := by decide +kernel
theorem d_Mo_priceOf_6 : decode b_Mo_priceOf 6 = .ok (.ifCond .ne 7, 3) := by decide +kernel
theorem d_Mo_priceOf_9 : decode b_Mo_priceOf 9 = .ok (.iconst 0, 1) := by decide +kernel
theorem d_Mo_priceOf_10 : decode b_Mo_priceOf 10 = .ok (.goto 22, 3) := by decide +kernel
theorem d_Mo_priceOf_13 : decode b_Mo_priceOf 13 = .ok (.ldc2_w 166, 3) := by decide +kernel
theorem d_Mo_priceOf_16 : decode b_Mo_priceOf 16 = .ok (.aload_n 0, 1) := by decide +kernel
theorem d_Mo_priceOf_17 : decode b_Mo_priceOf 17 = .ok (.getfield 20, 3) := by decide +kernel
theorem d_Mo_priceOf_20 : decode b_Mo_priceOf 20 = .ok (.iload_n 1, 1) := by decide +kernel
theorem d_Mo_priceOf_21 : decode b_Mo_priceOf 21 = .ok (.laload, 1) := by decide +kernel
theorem d_Mo_priceOf_22 : decode b_Mo_priceOf 22 = .ok (.lmul, 1) := by decide +kernel
theorem d_Mo_priceOf_23 : decode b_Mo_priceOf 23 = .ok (.aload_n 0, 1) := by decide +kernel
theorem d_Mo_priceOf_24 : decode b_Mo_priceOf 24 = .ok (.getfield 24, 3) := by decide +kernel
theorem d_Mo_priceOf_27 : decode b_Mo_priceOf 27 = .ok (.iload_n 1, 1) := by decide +kernel
theorem d_Mo_priceOf_28 : decode b_Mo_priceOf 28 = .ok (.iaload, 1) := by decide +kernel
theorem d_Mo_priceOf_29 : decode b_Mo_priceOf 29 = .ok (.i2l, 1) := by decide +kernel
theorem d_Mo_priceOf_30 : decode b_Mo_priceOf 30 = .ok (.ldiv, 1) := by decide +kernel
theorem d_Mo_priceOf_31 : decode b_Mo_priceOf 31 = .ok (.l2i, 1) := by decide +kernel
theorem d_Mo_priceOf_32 : decode b_Mo_priceOf 32 = .ok (.ireturn, 1) := by decide +kernel
theorem d_Mo_restart_0 : decode b_Mo_restart 0 = .ok (.aload_n 0, 1) := by decide +kernel
theorem d_Mo_restart_1 : decode b_Mo_restart 1 = .ok (.iconst 0, 1) := by decide +kernel
theorem d_Mo_restart_2 : decode b_Mo_restart 2 = .ok (.putfield 1, 3) := by decide +kernel
theorem d_Mo_restart_5 : decode b_Mo_restart 5 = .ok (.aload_n 0, 1) := by decide +kernel
theorem d_Mo_restart_6 : decode b_Mo_restart 6 = .ok (.getfield 92, 3) := by decide +kernel
theorem d_Mo_restart_9 : decode b_Mo_restart 9 = .ok (.istore_n 1, 1) := by decide +kernel
theorem d_Mo_restart_10 : decode b_Mo_restart 10 = .ok (.aload_n 0, 1) := by decide +kernel
theorem d_Mo_restart_11 : decode b_Mo_restart 11 = .ok (.iconst 0, 1) := by decide +kernel
theorem d_Mo_restart_12 : decode b_Mo_restart 12 = .ok (.putfield 92, 3) := by decide +kernel
theorem d_Mo_restart_15 : decode b_Mo_restart 15 = .ok (.aload_n 0, 1) := by decide +kernel
theorem d_Mo_restart_16 : decode b_Mo_restart 16 = .ok (.iconst 0, 1) := by decide +kernel
theorem d_Mo_restart_17 : decode b_Mo_restart 17 = .ok (.putfield 95, 3) := by decide +kernel
theorem d_Mo_restart_20 : decode b_Mo_restart 20 = .ok (.iload_n 1, 1) := by decide +kernel
theorem d_Mo_restart_21 : decode b_Mo_restart 21 = .ok (.ireturn, 1) := by decide +kernel
theorem d_Mo_best_0 : decode b_Mo_best 0 = .ok (.aload_n 0, 1) := by decide +kernel
theorem d_Mo_best_1 : decode b_Mo_best 1 = .ok (.iconst 0, 1) := by decide +kernel
theorem d_Mo_best_2 : decode b_Mo_best 2 = .ok (.putfield 1, 3) := by decide +kernel
theorem d_Mo_best_5 : decode b_Mo_best 5 = .ok (.aload_n 0, 1) := by decide +kernel
theorem d_Mo_best_6 : decode b_Mo_best 6 = .ok (.getfield 98, 3) := by decide +kernel
theorem d_Mo_best_9 : decode b_Mo_best 9 = .ok (.ifCond .eq 21, 3) := by decide +kernel
theorem d_Mo_best_12 : decode b_Mo_best 12 = .ok (.iload_n 1, 1) := by decide +kernel
theorem d_Mo_best_13 : decode b_Mo_best 13 = .ok (.i2l, 1) := by decide +kernel
theorem d_Mo_best_14 : decode b_Mo_best 14 = .ok (.ldc2_w 193, 3) := by decide +kernel
theorem d_Mo_best_17 : decode b_Mo_best 17 = .ok (.aload_n 0, 1) := by decide +kernel
theorem d_Mo_best_18 : decode b_Mo_best 18 = .ok (.getfield 85, 3) := by decide +kernel
theorem d_Mo_best_21 : decode b_Mo_best 21 = .ok (.iconst 1, 1) := by decide +kernel
theorem d_Mo_best_22 : decode b_Mo_best 22 = .ok (.isub, 1) := by decide +kernel
theorem d_Mo_best_23 : decode b_Mo_best 23 = .ok (.i2l, 1) := by decide +kernel
theorem d_Mo_best_24 : decode b_Mo_best 24 = .ok (.invokestatic 88, 3) := by decide +kernel
theorem d_Mo_best_27 : decode b_Mo_best 27 = .ok (.ifCond .ne 6, 3) := by decide +kernel
theorem d_Mo_best_30 : decode b_Mo_best 30 = .ok (.ldc 195, 2) := by decide +kernel
theorem d_Mo_best_32 : decode b_Mo_best 32 = .ok (.ireturn, 1) := by decide +kernel
theorem d_Mo_best_33 : decode b_Mo_best 33 = .ok (.iload_n 1, 1) := by decide +kernel
theorem d_Mo_best_34 : decode b_Mo_best 34 = .ok (.ifCond .ge 10, 3) := by decide +kernel
theorem d_Mo_best_37 : decode b_Mo_best 37 = .ok (.aload_n 0, 1) := by decide +kernel
theorem d_Mo_best_38 : decode b_Mo_best 38 = .ok (.getfield 136, 3) := by decide +kernel
theorem d_Mo_best_41 : decode b_Mo_best 41 = .ok (.goto 9, 3) := by decide +kernel
theorem d_Mo_best_44 : decode b_Mo_best 44 = .ok (.aload_n 0, 1) := by decide +kernel
theorem d_Mo_best_45 : decode b_Mo_best 45 = .ok (.getfield 49, 3) := by decide +kernel
theorem d_Mo_best_48 : decode b_Mo_best 48 = .ok (.iload_n 1, 1) := by decide +kernel
theorem d_Mo_best_49 : decode b_Mo_best 49 = .ok (.iaload, 1) := by decide +kernel
theorem d_Mo_best_50 : decode b_Mo_best 50 = .ok (.ireturn, 1) := by decide +kernel
theorem d_Mo_bound_0 : decode b_Mo_bound 0 = .ok (.aload_n 0, 1) := by decide +kernel
theorem d_Mo_bound_1 : decode b_Mo_bound 1 = .ok (.iconst 0, 1) := by decide +kernel
theorem d_Mo_bound_2 : decode b_Mo_bound 2 = .ok (.putfield 1, 3) := by decide +kernel
theorem d_Mo_bound_5 : decode b_Mo_bound 5 = .ok (.aload_n 0, 1) := by decide +kernel
theorem d_Mo_bound_6 : decode b_Mo_bound 6 = .ok (.getfield 92, 3) := by decide +kernel
theorem d_Mo_bound_9 : decode b_Mo_bound 9 = .ok (.ifCond .ne 6, 3) := by decide +kernel
theorem d_Mo_bound_12 : decode b_Mo_bound 12 = .ok (.ldc 195, 2) := by decide +kernel
theorem d_Mo_bound_14 : decode b_Mo_bound 14 = .ok (.ireturn, 1) := by decide +kernel
theorem d_Mo_bound_15 : decode b_Mo_bound 15 = .ok (.aload_n 0, 1) := by decide +kernel
theorem d_Mo_bound_16 : decode b_Mo_bound 16 = .ok (.getfield 98, 3) := by decide +kernel
theorem d_Mo_bound_19 : decode b_Mo_bound 19 = .ok (.ifCond .eq 10, 3) := by decide +kernel
theorem d_Mo_bound_22 : decode b_Mo_bound 22 = .ok (.aload_n 0, 1) := by decide +kernel
theorem d_Mo_bound_23 : decode b_Mo_bound 23 = .ok (.getfield 136, 3) := by decide +kernel
theorem d_Mo_bound_26 : decode b_Mo_bound 26 = .ok (.goto 5, 3) := by decide +kernel
theorem d_Mo_bound_29 : decode b_Mo_bound 29 = .ok (.ldc 196, 2) := by decide +kernel
theorem d_Mo_bound_31 : decode b_Mo_bound 31 = .ok (.istore_n 1, 1) := by decide +kernel
theorem d_Mo_bound_32 : decode b_Mo_bound 32 = .ok (.iconst 0, 1) := by decide +kernel
theorem d_Mo_bound_33 : decode b_Mo_bound 33 = .ok (.istore_n 2, 1) := by decide +kernel
theorem d_Mo_bound_34 : decode b_Mo_bound 34 = .ok (.iload_n 2, 1) := by decide +kernel
theorem d_Mo_bound_35 : decode b_Mo_bound 35 = .ok (.aload_n 0, 1) := by decide +kernel
theorem d_Mo_bound_36 : decode b_Mo_bound 36 = .ok (.getfield 92, 3) := by decide +kernel
theorem d_Mo_bound_39 : decode b_Mo_bound 39 = .ok (.if_icmp .ge 33, 3) := by decide +kernel
theorem d_Mo_bound_42 : decode b_Mo_bound 42 = .ok (.aload_n 0, 1) := by decide +kernel
theorem d_Mo_bound_43 : decode b_Mo_bound 43 = .ok (.getfield 64, 3) := by decide +kernel
theorem d_Mo_bound_46 : decode b_Mo_bound 46 = .ok (.iload_n 2, 1) := by decide +kernel
theorem d_Mo_bound_47 : decode b_Mo_bound 47 = .ok (.iaload, 1) := by decide +kernel
theorem d_Mo_bound_48 : decode b_Mo_bound 48 = .ok (.ifCond .ne 18, 3) := by decide +kernel
theorem d_Mo_bound_51 : decode b_Mo_bound 51 = .ok (.aload_n 0, 1) := by decide +kernel
theorem d_Mo_bound_52 : decode b_Mo_bound 52 = .ok (.iload_n 2, 1) := by decide +kernel
theorem d_Mo_bound_53 : decode b_Mo_bound 53 = .ok (.invokevirtual 168, 3) := by decide +kernel
theorem d_Mo_bound_56 : decode b_Mo_bound 56 = .ok (.iload_n 1, 1) := by decide +kernel
theorem d_Mo_bound_57 : decode b_Mo_bound 57 = .ok (.if_icmp .ge 9, 3) := by decide +kernel
theorem d_Mo_bound_60 : decode b_Mo_bound 60 = .ok (.aload_n 0, 1) := by decide +kernel
theorem d_Mo_bound_61 : decode b_Mo_bound 61 = .ok (.iload_n 2, 1) := by decide +kernel
theorem d_Mo_bound_62 : decode b_Mo_bound 62 = .ok (.invokevirtual 168, 3) := by decide +kernel
theorem d_Mo_bound_65 : decode b_Mo_bound 65 = .ok (.istore_n 1, 1) := by decide +kernel
theorem d_Mo_bound_66 : decode b_Mo_bound 66 = .ok (.iinc 2 1, 3) := by decide +kernel
theorem d_Mo_bound_69 : decode b_Mo_bound 69 = .ok (.goto (-35), 3) := by decide +kernel
theorem d_Mo_bound_72 : decode b_Mo_bound 72 = .ok (.iload_n 1, 1) := by decide +kernel
theorem d_Mo_bound_73 : decode b_Mo_bound 73 = .ok (.ireturn, 1) := by decide +kernel
theorem d_Mo_node_0 : decode b_Mo_node 0 = .ok (.aload_n 0, 1) := by decide +kernel
theorem d_Mo_node_1 : decode b_Mo_node 1 = .ok (.iconst 0, 1) := by decide +kernel
theorem d_Mo_node_2 : decode b_Mo_node 2 = .ok (.putfield 1, 3) := by decide +kernel
theorem d_Mo_node_5 : decode b_Mo_node 5 = .ok (.iload_n 1, 1) := by decide +kernel
theorem d_Mo_node_6 : decode b_Mo_node 6 = .ok (.i2l, 1) := by decide +kernel
theorem d_Mo_node_7 : decode b_Mo_node 7 = .ok (.lconst 0, 1) := by decide +kernel
theorem d_Mo_node_8 : decode b_Mo_node 8 = .ok (.aload_n 0, 1) := by decide +kernel
theorem d_Mo_node_9 : decode b_Mo_node 9 = .ok (.getfield 92, 3) := by decide +kernel
theorem d_Mo_node_12 : decode b_Mo_node 12 = .ok (.iconst 1, 1) := by decide +kernel
theorem d_Mo_node_13 : decode b_Mo_node 13 = .ok (.isub, 1) := by decide +kernel
theorem d_Mo_node_14 : decode b_Mo_node 14 = .ok (.i2l, 1) := by decide +kernel
theorem d_Mo_node_15 : decode b_Mo_node 15 = .ok (.invokestatic 88, 3) := by decide +kernel
theorem d_Mo_node_18 : decode b_Mo_node 18 = .ok (.ifCond .ne 6, 3) := by decide +kernel
theorem d_Mo_node_21 : decode b_Mo_node 21 = .ok (.ldc 195, 2) := by decide +kernel
theorem d_Mo_node_23 : decode b_Mo_node 23 = .ok (.ireturn, 1) := by decide +kernel
theorem d_Mo_node_24 : decode b_Mo_node 24 = .ok (.iload_n 2, 1) := by decide +kernel
theorem d_Mo_node_25 : decode b_Mo_node 25 = .ok (.tableswitch 138 0 8 #[51, 58, 65, 72, 79, 86, 92, 99, 106], 51) := by decide +kernel
theorem d_Mo_node_76 : decode b_Mo_node 76 = .ok (.aload_n 0, 1) := by decide +kernel
theorem d_Mo_node_77 : decode b_Mo_node 77 = .ok (.getfield 52, 3) := by decide +kernel
theorem d_Mo_node_80 : decode b_Mo_node 80 = .ok (.iload_n 1, 1) := by decide +kernel
theorem d_Mo_node_81 : decode b_Mo_node 81 = .ok (.iaload, 1) := by decide +kernel
theorem d_Mo_node_82 : decode b_Mo_node 82 = .ok (.ireturn, 1) := by decide +kernel
theorem d_Mo_node_83 : decode b_Mo_node 83 = .ok (.aload_n 0, 1) := by decide +kernel
theorem d_Mo_node_84 : decode b_Mo_node 84 = .ok (.getfield 55, 3) := by decide +kernel
theorem d_Mo_node_87 : decode b_Mo_node 87 = .ok (.iload_n 1, 1) := by decide +kernel
theorem d_Mo_node_88 : decode b_Mo_node 88 = .ok (.iaload, 1) := by decide +kernel
theorem d_Mo_node_89 : decode b_Mo_node 89 = .ok (.ireturn, 1) := by decide +kernel
theorem d_Mo_node_90 : decode b_Mo_node 90 = .ok (.aload_n 0, 1) := by decide +kernel
theorem d_Mo_node_91 : decode b_Mo_node 91 = .ok (.getfield 58, 3) := by decide +kernel
theorem d_Mo_node_94 : decode b_Mo_node 94 = .ok (.iload_n 1, 1) := by decide +kernel
theorem d_Mo_node_95 : decode b_Mo_node 95 = .ok (.iaload, 1) := by decide +kernel
theorem d_Mo_node_96 : decode b_Mo_node 96 = .ok (.ireturn, 1) := by decide +kernel
theorem d_Mo_node_97 : decode b_Mo_node 97 = .ok (.aload_n 0, 1) := by decide +kernel
theorem d_Mo_node_98 : decode b_Mo_node 98 = .ok (.getfield 61, 3) := by decide +kernel
theorem d_Mo_node_101 : decode b_Mo_node 101 = .ok (.iload_n 1, 1) := by decide +kernel
theorem d_Mo_node_102 : decode b_Mo_node 102 = .ok (.iaload, 1) := by decide +kernel
theorem d_Mo_node_103 : decode b_Mo_node 103 = .ok (.ireturn, 1) := by decide +kernel
theorem d_Mo_node_104 : decode b_Mo_node 104 = .ok (.aload_n 0, 1) := by decide +kernel
theorem d_Mo_node_105 : decode b_Mo_node 105 = .ok (.getfield 64, 3) := by decide +kernel
theorem d_Mo_node_108 : decode b_Mo_node 108 = .ok (.iload_n 1, 1) := by decide +kernel
theorem d_Mo_node_109 : decode b_Mo_node 109 = .ok (.iaload, 1) := by decide +kernel
theorem d_Mo_node_110 : decode b_Mo_node 110 = .ok (.ireturn, 1) := by decide +kernel
theorem d_Mo_node_111 : decode b_Mo_node 111 = .ok (.aload_n 0, 1) := by decide +kernel
theorem d_Mo_node_112 : decode b_Mo_node 112 = .ok (.iload_n 1, 1) := by decide +kernel
theorem d_Mo_node_113 : decode b_Mo_node 113 = .ok (.invokevirtual 168, 3) := by decide +kernel
theorem d_Mo_node_116 : decode b_Mo_node 116 = .ok (.ireturn, 1) := by decide +kernel
theorem d_Mo_node_117 : decode b_Mo_node 117 = .ok (.aload_n 0, 1) := by decide +kernel
theorem d_Mo_node_118 : decode b_Mo_node 118 = .ok (.getfield 67, 3) := by decide +kernel
theorem d_Mo_node_121 : decode b_Mo_node 121 = .ok (.iload_n 1, 1) := by decide +kernel
theorem d_Mo_node_122 : decode b_Mo_node 122 = .ok (.iaload, 1) := by decide +kernel
theorem d_Mo_node_123 : decode b_Mo_node 123 = .ok (.ireturn, 1) := by decide +kernel
theorem d_Mo_node_124 : decode b_Mo_node 124 = .ok (.aload_n 0, 1) := by decide +kernel
theorem d_Mo_node_125 : decode b_Mo_node 125 = .ok (.getfield 70, 3) := by decide +kernel
theorem d_Mo_node_128 : decode b_Mo_node 128 = .ok (.iload_n 1, 1) := by decide +kernel
theorem d_Mo_node_129 : decode b_Mo_node 129 = .ok (.iaload, 1) := by decide +kernel
theorem d_Mo_node_130 : decode b_Mo_node 130 = .ok (.ireturn, 1) := by decide +kernel
theorem d_Mo_node_131 : decode b_Mo_node 131 = .ok (.iconst 0, 1) := by decide +kernel
theorem d_Mo_node_132 : decode b_Mo_node 132 = .ok (.istore_n 3, 1) := by decide +kernel
theorem d_Mo_node_133 : decode b_Mo_node 133 = .ok (.aload_n 0, 1) := by decide +kernel
theorem d_Mo_node_134 : decode b_Mo_node 134 = .ok (.getfield 52, 3) := by decide +kernel
theorem d_Mo_node_137 : decode b_Mo_node 137 = .ok (.iload_n 1, 1) := by decide +kernel
theorem d_Mo_node_138 : decode b_Mo_node 138 = .ok (.iaload, 1) := by decide +kernel
theorem d_Mo_node_139 : decode b_Mo_node 139 = .ok (.istore 4, 2) := by decide +kernel
theorem d_Mo_node_141 : decode b_Mo_node 141 = .ok (.iload 4, 2) := by decide +kernel
theorem d_Mo_node_143 : decode b_Mo_node 143 = .ok (.ifCond .lt 18, 3) := by decide +kernel
theorem d_Mo_node_146 : decode b_Mo_node 146 = .ok (.iinc 3 1, 3) := by decide +kernel
theorem d_Mo_node_149 : decode b_Mo_node 149 = .ok (.aload_n 0, 1) := by decide +kernel
theorem d_Mo_node_150 : decode b_Mo_node 150 = .ok (.getfield 52, 3) := by decide +kernel
theorem d_Mo_node_153 : decode b_Mo_node 153 = .ok (.iload 4, 2) := by decide +kernel
theorem d_Mo_node_155 : decode b_Mo_node 155 = .ok (.iaload, 1) := by decide +kernel
theorem d_Mo_node_156 : decode b_Mo_node 156 = .ok (.istore 4, 2) := by decide +kernel
theorem d_Mo_node_158 : decode b_Mo_node 158 = .ok (.goto (-17), 3) := by decide +kernel
theorem d_Mo_node_161 : decode b_Mo_node 161 = .ok (.iload_n 3, 1) := by decide +kernel
theorem d_Mo_node_162 : decode b_Mo_node 162 = .ok (.ireturn, 1) := by decide +kernel
theorem d_Mo_node_163 : decode b_Mo_node 163 = .ok (.ldc 195, 2) := by decide +kernel
theorem d_Mo_node_165 : decode b_Mo_node 165 = .ok (.ireturn, 1) := by decide +kernel
theorem d_Mo_boundOf_0 : decode b_Mo_boundOf 0 = .ok (.aload_n 0, 1) := by decide +kernel
theorem d_Mo_boundOf_1 : decode b_Mo_boundOf 1 = .ok (.iconst 0, 1) := by decide +kernel
theorem d_Mo_boundOf_2 : decode b_Mo_boundOf 2 = .ok (.putfield 1, 3) := by decide +kernel
theorem d_Mo_boundOf_5 : decode b_Mo_boundOf 5 = .ok (.iload_n 1, 1) := by decide +kernel
theorem d_Mo_boundOf_6 : decode b_Mo_boundOf 6 = .ok (.i2l, 1) := by decide +kernel
theorem d_Mo_boundOf_7 : decode b_Mo_boundOf 7 = .ok (.lconst 0, 1) := by decide +kernel
theorem d_Mo_boundOf_8 : decode b_Mo_boundOf 8 = .ok (.aload_n 0, 1) := by decide +kernel
theorem d_Mo_boundOf_9 : decode b_Mo_boundOf 9 = .ok (.getfield 92, 3) := by decide +kernel
theorem d_Mo_boundOf_12 : decode b_Mo_boundOf 12 = .ok (.iconst 1, 1) := by decide +kernel
theorem d_Mo_boundOf_13 : decode b_Mo_boundOf 13 = .ok (.isub, 1) := by decide +kernel
theorem d_Mo_boundOf_14 : decode b_Mo_boundOf 14 = .ok (.i2l, 1) := by decide +kernel
theorem d_Mo_boundOf_15 : decode b_Mo_boundOf 15 = .ok (.invokestatic 88, 3) := by decide +kernel
theorem d_Mo_boundOf_18 : decode b_Mo_boundOf 18 = .ok (.ifCond .eq 21, 3) := by decide +kernel
theorem d_Mo_boundOf_21 : decode b_Mo_boundOf 21 = .ok (.aload_n 0, 1) := by decide +kernel
theorem d_Mo_boundOf_22 : decode b_Mo_boundOf 22 = .ok (.iload_n 2, 1) := by decide +kernel
theorem d_Mo_boundOf_23 : decode b_Mo_boundOf 23 = .ok (.invokevirtual 118, 3) := by decide +kernel
theorem d_Mo_boundOf_26 : decode b_Mo_boundOf 26 = .ok (.ifCond .ne 13, 3) := by decide +kernel
theorem d_Mo_boundOf_29 : decode b_Mo_boundOf 29 = .ok (.iload_n 3, 1) := by decide +kernel
theorem d_Mo_boundOf_30 : decode b_Mo_boundOf 30 = .ok (.i2l, 1) := by decide +kernel
theorem d_Mo_boundOf_31 : decode b_Mo_boundOf 31 = .ok (.lconst 0, 1) := by decide +kernel
theorem d_Mo_boundOf_32 : decode b_Mo_boundOf 32 = .ok (.lconst 1, 1) := by decide +kernel
theorem d_Mo_boundOf_33 : decode b_Mo_boundOf 33 = .ok (.invokestatic 88, 3) := by decide +kernel
theorem d_Mo_boundOf_36 : decode b_Mo_boundOf 36 = .ok (.ifCond .ne 7, 3) := by decide +kernel
theorem d_Mo_boundOf_39 : decode b_Mo_boundOf 39 = .ok (.sipush (-1000), 3) := by decide +kernel
theorem d_Mo_boundOf_42 : decode b_Mo_boundOf 42 = .ok (.ireturn, 1) := by decide +kernel
theorem d_Mo_boundOf_43 : decode b_Mo_boundOf 43 = .ok (.iload_n 3, 1) := by decide +kernel
theorem d_Mo_boundOf_44 : decode b_Mo_boundOf 44 = .ok (.iconst 1, 1) := by decide +kernel
theorem d_Mo_boundOf_45 : decode b_Mo_boundOf 45 = .ok (.if_icmp .ne 17, 3) := by decide +kernel
theorem d_Mo_boundOf_48 : decode b_Mo_boundOf 48 = .ok (.aload_n 0, 1) := by decide +kernel
theorem d_Mo_boundOf_49 : decode b_Mo_boundOf 49 = .ok (.getfield 73, 3) := by decide +kernel
theorem d_Mo_boundOf_52 : decode b_Mo_boundOf 52 = .ok (.bipush 8, 2) := by decide +kernel
theorem d_Mo_boundOf_54 : decode b_Mo_boundOf 54 = .ok (.iload_n 1, 1) := by decide +kernel
theorem d_Mo_boundOf_55 : decode b_Mo_boundOf 55 = .ok (.imul, 1) := by decide +kernel
theorem d_Mo_boundOf_56 : decode b_Mo_boundOf 56 = .ok (.iload_n 2, 1) := by decide +kernel
theorem d_Mo_boundOf_57 : decode b_Mo_boundOf 57 = .ok (.iadd, 1) := by decide +kernel
theorem d_Mo_boundOf_58 : decode b_Mo_boundOf 58 = .ok (.iaload, 1) := by decide +kernel
theorem d_Mo_boundOf_59 : decode b_Mo_boundOf 59 = .ok (.goto 14, 3) := by decide +kernel
theorem d_Mo_boundOf_62 : decode b_Mo_boundOf 62 = .ok (.aload_n 0, 1) := by decide +kernel
theorem d_Mo_boundOf_63 : decode b_Mo_boundOf 63 = .ok (.getfield 76, 3) := by decide +kernel
theorem d_Mo_boundOf_66 : decode b_Mo_boundOf 66 = .ok (.bipush 8, 2) := by decide +kernel
theorem d_Mo_boundOf_68 : decode b_Mo_boundOf 68 = .ok (.iload_n 1, 1) := by decide +kernel
theorem d_Mo_boundOf_69 : decode b_Mo_boundOf 69 = .ok (.imul, 1) := by decide +kernel
theorem d_Mo_boundOf_70 : decode b_Mo_boundOf 70 = .ok (.iload_n 2, 1) := by decide +kernel
theorem d_Mo_boundOf_71 : decode b_Mo_boundOf 71 = .ok (.iadd, 1) := by decide +kernel
theorem d_Mo_boundOf_72 : decode b_Mo_boundOf 72 = .ok (.iaload, 1) := by decide +kernel
theorem d_Mo_boundOf_73 : decode b_Mo_boundOf 73 = .ok (.ireturn, 1) := by decide +kernel
theorem d_Mo_price_0 : decode b_Mo_price 0 = .ok (.aload_n 0, 1) := by decide +kernel
theorem d_Mo_price_1 : decode b_Mo_price 1 = .ok (.iconst 0, 1) := by decide +kernel
theorem d_Mo_price_2 : decode b_Mo_price 2 = .ok (.putfield 1, 3) := by decide +kernel
theorem d_Mo_price_5 : decode b_Mo_price 5 = .ok (.aload_n 0, 1) := by decide +kernel
theorem d_Mo_price_6 : decode b_Mo_price 6 = .ok (.iload_n 1, 1) := by decide +kernel
theorem d_Mo_price_7 : decode b_Mo_price 7 = .ok (.invokevirtual 118, 3) := by decide +kernel
theorem d_Mo_price_10 : decode b_Mo_price 10 = .ok (.ifCond .eq 7, 3) := by decide +kernel
theorem d_Mo_price_13 : decode b_Mo_price 13 = .ok (.iconst (-1), 1) := by decide +kernel
theorem d_Mo_price_14 : decode b_Mo_price 14 = .ok (.goto 8, 3) := by decide +kernel
theorem d_Mo_price_17 : decode b_Mo_price 17 = .ok (.aload_n 0, 1) := by decide +kernel
theorem d_Mo_price_18 : decode b_Mo_price 18 = .ok (.iload_n 1, 1) := by decide +kernel
theorem d_Mo_price_19 : decode b_Mo_price 19 = .ok (.invokevirtual 172, 3) := by decide +kernel
theorem d_Mo_price_22 : decode b_Mo_price 22 = .ok (.ireturn, 1) := by decide +kernel
theorem d_Mo_check_0 : decode b_Mo_check 0 = .ok (.aload_n 0, 1) := by decide +kernel
theorem d_Mo_check_1 : decode b_Mo_check 1 = .ok (.iconst 0, 1) := by decide +kernel
theorem d_Mo_check_2 : decode b_Mo_check 2 = .ok (.putfield 1, 3) := by decide +kernel
theorem d_Mo_check_5 : decode b_Mo_check 5 = .ok (.aload_n 0, 1) := by decide +kernel
theorem d_Mo_check_6 : decode b_Mo_check 6 = .ok (.getfield 92, 3) := by decide +kernel
theorem d_Mo_check_9 : decode b_Mo_check 9 = .ok (.ifCond .ne 5, 3) := by decide +kernel
theorem d_Mo_check_12 : decode b_Mo_check 12 = .ok (.iconst (-1), 1) := by decide +kernel
theorem d_Mo_check_13 : decode b_Mo_check 13 = .ok (.ireturn, 1) := by decide +kernel
theorem d_Mo_check_14 : decode b_Mo_check 14 = .ok (.iconst 0, 1) := by decide +kernel
theorem d_Mo_check_15 : decode b_Mo_check 15 = .ok (.istore_n 1, 1) := by decide +kernel
theorem d_Mo_check_16 : decode b_Mo_check 16 = .ok (.iload_n 1, 1) := by decide +kernel
theorem d_Mo_check_17 : decode b_Mo_check 17 = .ok (.aload_n 0, 1) := by decide +kernel
theorem d_Mo_check_18 : decode b_Mo_check 18 = .ok (.getfield 92, 3) := by decide +kernel
theorem d_Mo_check_21 : decode b_Mo_check 21 = .ok (.if_icmp .ge 135, 3) := by decide +kernel
theorem d_Mo_check_24 : decode b_Mo_check 24 = .ok (.aload_n 0, 1) := by decide +kernel
theorem d_Mo_check_25 : decode b_Mo_check 25 = .ok (.getfield 64, 3) := by decide +kernel
theorem d_Mo_check_28 : decode b_Mo_check 28 = .ok (.iload_n 1, 1) := by decide +kernel
theorem d_Mo_check_29 : decode b_Mo_check 29 = .ok (.iaload, 1) := by decide +kernel
theorem d_Mo_check_30 : decode b_Mo_check 30 = .ok (.ifCond .ne 5, 3) := by decide +kernel
theorem d_Mo_check_33 : decode b_Mo_check 33 = .ok (.iconst 0, 1) := by decide +kernel
theorem d_Mo_check_34 : decode b_Mo_check 34 = .ok (.ireturn, 1) := by decide +kernel
theorem d_Mo_check_35 : decode b_Mo_check 35 = .ok (.aload_n 0, 1) := by decide +kernel
theorem d_Mo_check_36 : decode b_Mo_check 36 = .ok (.getfield 64, 3) := by decide +kernel
theorem d_Mo_check_39 : decode b_Mo_check 39 = .ok (.iload_n 1, 1) := by decide +kernel
theorem d_Mo_check_40 : decode b_Mo_check 40 = .ok (.iaload, 1) := by decide +kernel
theorem d_Mo_check_41 : decode b_Mo_check 41 = .ok (.iconst 1, 1) := by decide +kernel
theorem d_Mo_check_42 : decode b_Mo_check 42 = .ok (.if_icmp .ne 49, 3) := by decide +kernel
theorem d_Mo_check_45 : decode b_Mo_check 45 = .ok (.iconst 0, 1) := by decide +kernel
theorem d_Mo_check_46 : decode b_Mo_check 46 = .ok (.istore_n 2, 1) := by decide +kernel
theorem d_Mo_check_47 : decode b_Mo_check 47 = .ok (.iconst 0, 1) := by decide +kernel
theorem d_Mo_check_48 : decode b_Mo_check 48 = .ok (.istore_n 3, 1) := by decide +kernel
theorem d_Mo_check_49 : decode b_Mo_check 49 = .ok (.iload_n 3, 1) := by decide +kernel
theorem d_Mo_check_50 : decode b_Mo_check 50 = .ok (.aload_n 0, 1) := by decide +kernel
theorem d_Mo_check_51 : decode b_Mo_check 51 = .ok (.getfield 92, 3) := by decide +kernel
theorem d_Mo_check_54 : decode b_Mo_check 54 = .ok (.if_icmp .ge 27, 3) := by decide +kernel
theorem d_Mo_check_57 : decode b_Mo_check 57 = .ok (.aload_n 0, 1) := by decide +kernel
theorem d_Mo_check_58 : decode b_Mo_check 58 = .ok (.getfield 52, 3) := by decide +kernel
theorem d_Mo_check_61 : decode b_Mo_check 61 = .ok (.iload_n 3, 1) := by decide +kernel
theorem d_Mo_check_62 : decode b_Mo_check 62 = .ok (.iaload, 1) := by decide +kernel
theorem d_Mo_check_63 : decode b_Mo_check 63 = .ok (.iload_n 1, 1) := by decide +kernel
theorem d_Mo_check_64 : decode b_Mo_check 64 = .ok (.if_icmp .ne 9, 3) := by decide +kernel
theorem d_Mo_check_67 : decode b_Mo_check 67 = .ok (.iload_n 2, 1) := by decide +kernel
theorem d_Mo_check_68 : decode b_Mo_check 68 = .ok (.iconst 1, 1) := by decide +kernel
theorem d_Mo_check_69 : decode b_Mo_check 69 = .ok (.iadd, 1) := by decide +kernel
theorem d_Mo_check_70 : decode b_Mo_check 70 = .ok (.goto 4, 3) := by decide +kernel
theorem d_Mo_check_73 : decode b_Mo_check 73 = .ok (.iload_n 2, 1) := by decide +kernel
theorem d_Mo_check_74 : decode b_Mo_check 74 = .ok (.istore_n 2, 1) := by decide +kernel
theorem d_Mo_check_75 : decode b_Mo_check 75 = .ok (.iinc 3 1, 3) := by decide +kernel
theorem d_Mo_check_78 : decode b_Mo_check 78 = .ok (.goto (-29), 3) := by decide +kernel
theorem d_Mo_check_81 : decode b_Mo_check 81 = .ok (.iload_n 2, 1) := by decide +kernel
theorem d_Mo_check_82 : decode b_Mo_check 82 = .ok (.iconst 2, 1) := by decide +kernel
theorem d_Mo_check_83 : decode b_Mo_check 83 = .ok (.if_icmp .eq 5, 3) := by decide +kernel
theorem d_Mo_check_86 : decode b_Mo_check 86 = .ok (.iconst 0, 1) := by decide +kernel
theorem d_Mo_check_87 : decode b_Mo_check 87 = .ok (.ireturn, 1) := by decide +kernel
theorem d_Mo_check_88 : decode b_Mo_check 88 = .ok (.goto 62, 3) := by decide +kernel
theorem d_Mo_check_91 : decode b_Mo_check 91 = .ok (.aload_n 0, 1) := by decide +kernel
theorem d_Mo_check_92 : decode b_Mo_check 92 = .ok (.iconst (-1), 1) := by decide +kernel
theorem d_Mo_check_93 : decode b_Mo_check 93 = .ok (.invokevirtual 154, 3) := by decide +kernel
theorem d_Mo_check_96 : decode b_Mo_check 96 = .ok (.iload_n 1, 1) := by decide +kernel
theorem d_Mo_check_97 : decode b_Mo_check 97 = .ok (.istore_n 2, 1) := by decide +kernel
theorem d_Mo_check_98 : decode b_Mo_check 98 = .ok (.aload_n 0, 1) := by decide +kernel
theorem d_Mo_check_99 : decode b_Mo_check 99 = .ok (.getfield 52, 3) := by decide +kernel
theorem d_Mo_check_102 : decode b_Mo_check 102 = .ok (.iload_n 2, 1) := by decide +kernel
theorem d_Mo_check_103 : decode b_Mo_check 103 = .ok (.iaload, 1) := by decide +kernel
theorem d_Mo_check_104 : decode b_Mo_check 104 = .ok (.ifCond .lt 35, 3) := by decide +kernel
theorem d_Mo_check_107 : decode b_Mo_check 107 = .ok (.aload_n 0, 1) := by decide +kernel
theorem d_Mo_check_108 : decode b_Mo_check 108 = .ok (.aload_n 0, 1) := by decide +kernel
theorem d_Mo_check_109 : decode b_Mo_check 109 = .ok (.getfield 55, 3) := by decide +kernel
theorem d_Mo_check_112 : decode b_Mo_check 112 = .ok (.iload_n 2, 1) := by decide +kernel
theorem d_Mo_check_113 : decode b_Mo_check 113 = .ok (.iaload, 1) := by decide +kernel
theorem d_Mo_check_114 : decode b_Mo_check 114 = .ok (.aload_n 0, 1) := by decide +kernel
theorem d_Mo_check_115 : decode b_Mo_check 115 = .ok (.getfield 58, 3) := by decide +kernel
theorem d_Mo_check_118 : decode b_Mo_check 118 = .ok (.iload_n 2, 1) := by decide +kernel
theorem d_Mo_check_119 : decode b_Mo_check 119 = .ok (.iaload, 1) := by decide +kernel
theorem d_Mo_check_120 : decode b_Mo_check 120 = .ok (.aload_n 0, 1) := by decide +kernel
theorem d_Mo_check_121 : decode b_Mo_check 121 = .ok (.getfield 61, 3) := by decide +kernel
theorem d_Mo_check_124 : decode b_Mo_check 124 = .ok (.iload_n 2, 1) := by decide +kernel
theorem d_Mo_check_125 : decode b_Mo_check 125 = .ok (.iaload, 1) := by decide +kernel
theorem d_Mo_check_126 : decode b_Mo_check 126 = .ok (.invokevirtual 158, 3) := by decide +kernel
theorem d_Mo_check_129 : decode b_Mo_check 129 = .ok (.aload_n 0, 1) := by decide +kernel
theorem d_Mo_check_130 : decode b_Mo_check 130 = .ok (.getfield 52, 3) := by decide +kernel
theorem d_Mo_check_133 : decode b_Mo_check 133 = .ok (.iload_n 2, 1) := by decide +kernel
theorem d_Mo_check_134 : decode b_Mo_check 134 = .ok (.iaload, 1) := by decide +kernel
theorem d_Mo_check_135 : decode b_Mo_check 135 = .ok (.istore_n 2, 1) := by decide +kernel
theorem d_Mo_check_136 : decode b_Mo_check 136 = .ok (.goto (-38), 3) := by decide +kernel
theorem d_Mo_check_139 : decode b_Mo_check 139 = .ok (.aload_n 0, 1) := by decide +kernel
theorem d_Mo_check_140 : decode b_Mo_check 140 = .ok (.invokevirtual 162, 3) := by decide +kernel
theorem d_Mo_check_143 : decode b_Mo_check 143 = .ok (.bipush (-2), 2) := by decide +kernel
theorem d_Mo_check_145 : decode b_Mo_check 145 = .ok (.if_icmp .ne 5, 3) := by decide +kernel
theorem d_Mo_check_148 : decode b_Mo_check 148 = .ok (.iconst 0, 1) := by decide +kernel
theorem d_Mo_check_149 : decode b_Mo_check 149 = .ok (.ireturn, 1) := by decide +kernel
theorem d_Mo_check_150 : decode b_Mo_check 150 = .ok (.iinc 1 1, 3) := by decide +kernel
theorem d_Mo_check_153 : decode b_Mo_check 153 = .ok (.goto (-137), 3) := by decide +kernel
theorem d_Mo_check_156 : decode b_Mo_check 156 = .ok (.iconst 1, 1) := by decide +kernel
theorem d_Mo_check_157 : decode b_Mo_check 157 = .ok (.ireturn, 1) := by decide +kernel
theorem d_Mo_count_0 : decode b_Mo_count 0 = .ok (.aload_n 0, 1) := by decide +kernel
theorem d_Mo_count_1 : decode b_Mo_count 1 = .ok (.iconst 0, 1) := by decide +kernel
theorem d_Mo_count_2 : decode b_Mo_count 2 = .ok (.putfield 1, 3) := by decide +kernel
theorem d_Mo_count_5 : decode b_Mo_count 5 = .ok (.iconst 0, 1) := by decide +kernel
theorem d_Mo_count_6 : decode b_Mo_count 6 = .ok (.istore_n 2, 1) := by decide +kernel
theorem d_Mo_count_7 : decode b_Mo_count 7 = .ok (.iconst 0, 1) := by decide +kernel
theorem d_Mo_count_8 : decode b_Mo_count 8 = .ok (.istore_n 3, 1) := by decide +kernel
theorem d_Mo_count_9 : decode b_Mo_count 9 = .ok (.iload_n 3, 1) := by decide +kernel
theorem d_Mo_count_10 : decode b_Mo_count 10 = .ok (.aload_n 0, 1) := by decide +kernel
theorem d_Mo_count_11 : decode b_Mo_count 11 = .ok (.getfield 115, 3) := by decide +kernel
theorem d_Mo_count_14 : decode b_Mo_count 14 = .ok (.if_icmp .ge 26, 3) := by decide +kernel
theorem d_Mo_count_17 : decode b_Mo_count 17 = .ok (.aload_n 0, 1) := by decide +kernel
theorem d_Mo_count_18 : decode b_Mo_count 18 = .ok (.getfield 42, 3) := by decide +kernel
theorem d_Mo_count_21 : decode b_Mo_count 21 = .ok (.iload_n 3, 1) := by decide +kernel
theorem d_Mo_count_22 : decode b_Mo_count 22 = .ok (.baload, 1) := by decide +kernel
theorem d_Mo_count_23 : decode b_Mo_count 23 = .ok (.ifCond .eq 9, 3) := by decide +kernel
theorem d_Mo_count_26 : decode b_Mo_count 26 = .ok (.iload_n 2, 1) := by decide +kernel
theorem d_Mo_count_27 : decode b_Mo_count 27 = .ok (.iconst 1, 1) := by decide +kernel
theorem d_Mo_count_28 : decode b_Mo_count 28 = .ok (.iadd, 1) := by decide +kernel
theorem d_Mo_count_29 : decode b_Mo_count 29 = .ok (.goto 4, 3) := by decide +kernel
theorem d_Mo_count_32 : decode b_Mo_count 32 = .ok (.iload_n 2, 1) := by decide +kernel
theorem d_Mo_count_33 : decode b_Mo_count 33 = .ok (.istore_n 2, 1) := by decide +kernel
theorem d_Mo_count_34 : decode b_Mo_count 34 = .ok (.iinc 3 1, 3) := by decide +kernel
theorem d_Mo_count_37 : decode b_Mo_count 37 = .ok (.goto (-28), 3) := by decide +kernel
theorem d_Mo_count_40 : decode b_Mo_count 40 = .ok (.iload_n 1, 1) := by decide +kernel
theorem d_Mo_count_41 : decode b_Mo_count 41 = .ok (.tableswitch 114 0 9 #[55, 60, 65, 67, 72, 78, 83, 96, 102, 108], 55) := by decide +kernel
theorem d_Mo_count_96 : decode b_Mo_count 96 = .ok (.aload_n 0, 1) := by decide +kernel
theorem d_Mo_count_97 : decode b_Mo_count 97 = .ok (.getfield 85, 3) := by decide +kernel
theorem d_Mo_count_100 : decode b_Mo_count 100 = .ok (.ireturn, 1) := by decide +kernel
theorem d_Mo_count_101 : decode b_Mo_count 101 = .ok (.aload_n 0, 1) := by decide +kernel
theorem d_Mo_count_102 : decode b_Mo_count 102 = .ok (.getfield 115, 3) := by decide +kernel
theorem d_Mo_count_105 : decode b_Mo_count 105 = .ok (.ireturn, 1) := by decide +kernel
theorem d_Mo_count_106 : decode b_Mo_count 106 = .ok (.iload_n 2, 1) := by decide +kernel
theorem d_Mo_count_107 : decode b_Mo_count 107 = .ok (.ireturn, 1) := by decide +kernel
theorem d_Mo_count_108 : decode b_Mo_count 108 = .ok (.aload_n 0, 1) := by decide +kernel
theorem d_Mo_count_109 : decode b_Mo_count 109 = .ok (.getfield 92, 3) := by decide +kernel
theorem d_Mo_count_112 : decode b_Mo_count 112 = .ok (.ireturn, 1) := by decide +kernel
theorem d_Mo_count_113 : decode b_Mo_count 113 = .ok (.aload_n 0, 1) := by decide +kernel
theorem d_Mo_count_114 : decode b_Mo_count 114 = .ok (.iconst 0, 1) := by decide +kernel
theorem d_Mo_count_115 : decode b_Mo_count 115 = .ok (.invokevirtual 197, 3) := by decide +kernel
theorem d_Mo_count_118 : decode b_Mo_count 118 = .ok (.ireturn, 1) := by decide +kernel
theorem d_Mo_count_119 : decode b_Mo_count 119 = .ok (.aload_n 0, 1) := by decide +kernel
theorem d_Mo_count_120 : decode b_Mo_count 120 = .ok (.getfield 95, 3) := by decide +kernel
theorem d_Mo_count_123 : decode b_Mo_count 123 = .ok (.ireturn, 1) := by decide +kernel
theorem d_Mo_count_124 : decode b_Mo_count 124 = .ok (.aload_n 0, 1) := by decide +kernel
theorem d_Mo_count_125 : decode b_Mo_count 125 = .ok (.getfield 98, 3) := by decide +kernel
theorem d_Mo_count_128 : decode b_Mo_count 128 = .ok (.ifCond .eq 7, 3) := by decide +kernel
theorem d_Mo_count_131 : decode b_Mo_count 131 = .ok (.iconst 1, 1) := by decide +kernel
theorem d_Mo_count_132 : decode b_Mo_count 132 = .ok (.goto 4, 3) := by decide +kernel
theorem d_Mo_count_135 : decode b_Mo_count 135 = .ok (.iconst 0, 1) := by decide +kernel
theorem d_Mo_count_136 : decode b_Mo_count 136 = .ok (.ireturn, 1) := by decide +kernel
theorem d_Mo_count_137 : decode b_Mo_count 137 = .ok (.aload_n 0, 1) := by decide +kernel
theorem d_Mo_count_138 : decode b_Mo_count 138 = .ok (.iconst 2, 1) := by decide +kernel
theorem d_Mo_count_139 : decode b_Mo_count 139 = .ok (.invokevirtual 197, 3) := by decide +kernel
theorem d_Mo_count_142 : decode b_Mo_count 142 = .ok (.ireturn, 1) := by decide +kernel
theorem d_Mo_count_143 : decode b_Mo_count 143 = .ok (.aload_n 0, 1) := by decide +kernel
theorem d_Mo_count_144 : decode b_Mo_count 144 = .ok (.iconst 3, 1) := by decide +kernel
theorem d_Mo_count_145 : decode b_Mo_count 145 = .ok (.invokevirtual 197, 3) := by decide +kernel
theorem d_Mo_count_148 : decode b_Mo_count 148 = .ok (.ireturn, 1) := by decide +kernel
theorem d_Mo_count_149 : decode b_Mo_count 149 = .ok (.aload_n 0, 1) := by decide +kernel
theorem d_Mo_count_150 : decode b_Mo_count 150 = .ok (.iconst 4, 1) := by decide +kernel
theorem d_Mo_count_151 : decode b_Mo_count 151 = .ok (.invokevirtual 197, 3) := by decide +kernel
theorem d_Mo_count_154 : decode b_Mo_count 154 = .ok (.ireturn, 1) := by decide +kernel
theorem d_Mo_count_155 : decode b_Mo_count 155 = .ok (.iconst (-1), 1) := by decide +kernel
theorem d_Mo_count_156 : decode b_Mo_count 156 = .ok (.ireturn, 1) := by decide +kernel
theorem d_Mo_inState_0 : decode b_Mo_inState 0 = .ok (.iconst 0, 1) := by decide +kernel
theorem d_Mo_inState_1 : decode b_Mo_inState 1 = .ok (.istore_n 2, 1) := by decide +kernel
theorem d_Mo_inState_2 : decode b_Mo_inState 2 = .ok (.iconst 0, 1) := by decide +kernel
theorem d_Mo_inState_3 : decode b_Mo_inState 3 = .ok (.istore_n 3, 1) := by decide +kernel
theorem d_Mo_inState_4 : decode b_Mo_inState 4 = .ok (.iload_n 3, 1) := by decide +kernel
theorem d_Mo_inState_5 : decode b_Mo_inState 5 = .ok (.aload_n 0, 1) := by decide +kernel
theorem d_Mo_inState_6 : decode b_Mo_inState 6 = .ok (.getfield 92, 3) := by decide +kernel
theorem d_Mo_inState_9 : decode b_Mo_inState 9 = .ok (.if_icmp .ge 27, 3) := by decide +kernel
theorem d_Mo_inState_12 : decode b_Mo_inState 12 = .ok (.aload_n 0, 1) := by decide +kernel
theorem d_Mo_inState_13 : decode b_Mo_inState 13 = .ok (.getfield 64, 3) := by decide +kernel
theorem d_Mo_inState_16 : decode b_Mo_inState 16 = .ok (.iload_n 3, 1) := by decide +kernel
theorem d_Mo_inState_17 : decode b_Mo_inState 17 = .ok (.iaload, 1) := by decide +kernel
theorem d_Mo_inState_18 : decode b_Mo_inState 18 = .ok (.iload_n 1, 1) := by decide +kernel
theorem d_Mo_inState_19 : decode b_Mo_inState 19 = .ok (.if_icmp .ne 9, 3) := by decide +kernel
theorem d_Mo_inState_22 : decode b_Mo_inState 22 = .ok (.iload_n 2, 1) := by decide +kernel
theorem d_Mo_inState_23 : decode b_Mo_inState 23 = .ok (.iconst 1, 1) := by decide +kernel
theorem d_Mo_inState_24 : decode b_Mo_inState 24 = .ok (.iadd, 1) := by decide +kernel
theorem d_Mo_inState_25 : decode b_Mo_inState 25 = .ok (.goto 4, 3) := by decide +kernel
theorem d_Mo_inState_28 : decode b_Mo_inState 28 = .ok (.iload_n 2, 1) := by decide +kernel
theorem d_Mo_inState_29 : decode b_Mo_inState 29 = .ok (.istore_n 2, 1) := by decide +kernel
theorem d_Mo_inState_30 : decode b_Mo_inState 30 = .ok (.iinc 3 1, 3) := by decide +kernel
theorem d_Mo_inState_33 : decode b_Mo_inState 33 = .ok (.goto (-29), 3) := by decide +kernel
theorem d_Mo_inState_36 : decode b_Mo_inState 36 = .ok (.iload_n 2, 1) := by decide +kernel
theorem d_Mo_inState_37 : decode b_Mo_inState 37 = .ok (.ireturn, 1) := by decide +kernel
