theorem d_Mo_order_159 : decode b_Mo_order 159 = .ok (.iinc 1 1, 3) := by decide +kernel
theorem d_Mo_order_162 : decode b_Mo_order 162 = .ok (.iinc 2 1, 3) := by decide +kernel
theorem d_Mo_order_165 : decode b_Mo_order 165 = .ok (.goto (-128), 3) := by decide +kernel
theorem d_Mo_order_168 : decode b_Mo_order 168 = .ok (.iload_n 1, 1) := by decide +kernel
theorem d_Mo_order_169 : decode b_Mo_order 169 = .ok (.ifCond .le 7, 3) := by decide +kernel
theorem d_Mo_order_172 : decode b_Mo_order 172 = .ok (.aload_n 0, 1) := by decide +kernel
theorem d_Mo_order_173 : decode b_Mo_order 173 = .ok (.invokevirtual 106, 3) := by decide +kernel
theorem d_Mo_order_176 : decode b_Mo_order 176 = .ok (.iload_n 1, 1) := by decide +kernel
theorem d_Mo_order_177 : decode b_Mo_order 177 = .ok (.ireturn, 1) := by decide +kernel
theorem d_Mo_rule_0 : decode b_Mo_rule 0 = .ok (.aload_n 0, 1) := by decide +kernel
theorem d_Mo_rule_1 : decode b_Mo_rule 1 = .ok (.iconst 0, 1) := by decide +kernel
theorem d_Mo_rule_2 : decode b_Mo_rule 2 = .ok (.putfield 1, 3) := by decide +kernel
theorem d_Mo_rule_5 : decode b_Mo_rule 5 = .ok (.iload_n 1, 1) := by decide +kernel
theorem d_Mo_rule_6 : decode b_Mo_rule 6 = .ok (.i2l, 1) := by decide +kernel
theorem d_Mo_rule_7 : decode b_Mo_rule 7 = .ok (.lconst 0, 1) := by decide +kernel
theorem d_Mo_rule_8 : decode b_Mo_rule 8 = .ok (.ldc2_w 109, 3) := by decide +kernel
theorem d_Mo_rule_11 : decode b_Mo_rule 11 = .ok (.invokestatic 88, 3) := by decide +kernel
theorem d_Mo_rule_14 : decode b_Mo_rule 14 = .ok (.ifCond .eq 34, 3) := by decide +kernel
theorem d_Mo_rule_17 : decode b_Mo_rule 17 = .ok (.iload_n 2, 1) := by decide +kernel
theorem d_Mo_rule_18 : decode b_Mo_rule 18 = .ok (.i2l, 1) := by decide +kernel
theorem d_Mo_rule_19 : decode b_Mo_rule 19 = .ok (.lconst 0, 1) := by decide +kernel
theorem d_Mo_rule_20 : decode b_Mo_rule 20 = .ok (.iload_n 1, 1) := by decide +kernel
theorem d_Mo_rule_21 : decode b_Mo_rule 21 = .ok (.ifCond .ne 9, 3) := by decide +kernel
theorem d_Mo_rule_24 : decode b_Mo_rule 24 = .ok (.ldc2_w 109, 3) := by decide +kernel
theorem d_Mo_rule_27 : decode b_Mo_rule 27 = .ok (.goto 15, 3) := by decide +kernel
theorem d_Mo_rule_30 : decode b_Mo_rule 30 = .ok (.iload_n 1, 1) := by decide +kernel
theorem d_Mo_rule_31 : decode b_Mo_rule 31 = .ok (.iconst 1, 1) := by decide +kernel
theorem d_Mo_rule_32 : decode b_Mo_rule 32 = .ok (.if_icmp .ne 9, 3) := by decide +kernel
theorem d_Mo_rule_35 : decode b_Mo_rule 35 = .ok (.ldc2_w 134, 3) := by decide +kernel
theorem d_Mo_rule_38 : decode b_Mo_rule 38 = .ok (.goto 4, 3) := by decide +kernel
theorem d_Mo_rule_41 : decode b_Mo_rule 41 = .ok (.lconst 1, 1) := by decide +kernel
theorem d_Mo_rule_42 : decode b_Mo_rule 42 = .ok (.invokestatic 88, 3) := by decide +kernel
theorem d_Mo_rule_45 : decode b_Mo_rule 45 = .ok (.ifCond .ne 5, 3) := by decide +kernel
theorem d_Mo_rule_48 : decode b_Mo_rule 48 = .ok (.iconst (-1), 1) := by decide +kernel
theorem d_Mo_rule_49 : decode b_Mo_rule 49 = .ok (.ireturn, 1) := by decide +kernel
theorem d_Mo_rule_50 : decode b_Mo_rule 50 = .ok (.aload_n 0, 1) := by decide +kernel
theorem d_Mo_rule_51 : decode b_Mo_rule 51 = .ok (.getfield 46, 3) := by decide +kernel
theorem d_Mo_rule_54 : decode b_Mo_rule 54 = .ok (.iload_n 1, 1) := by decide +kernel
theorem d_Mo_rule_55 : decode b_Mo_rule 55 = .ok (.iaload, 1) := by decide +kernel
theorem d_Mo_rule_56 : decode b_Mo_rule 56 = .ok (.istore_n 3, 1) := by decide +kernel
theorem d_Mo_rule_57 : decode b_Mo_rule 57 = .ok (.aload_n 0, 1) := by decide +kernel
theorem d_Mo_rule_58 : decode b_Mo_rule 58 = .ok (.getfield 46, 3) := by decide +kernel
theorem d_Mo_rule_61 : decode b_Mo_rule 61 = .ok (.iload_n 1, 1) := by decide +kernel
theorem d_Mo_rule_62 : decode b_Mo_rule 62 = .ok (.iload_n 2, 1) := by decide +kernel
theorem d_Mo_rule_63 : decode b_Mo_rule 63 = .ok (.iastore, 1) := by decide +kernel
theorem d_Mo_rule_64 : decode b_Mo_rule 64 = .ok (.iload_n 3, 1) := by decide +kernel
theorem d_Mo_rule_65 : decode b_Mo_rule 65 = .ok (.ireturn, 1) := by decide +kernel
theorem d_Mo_start_0 : decode b_Mo_start 0 = .ok (.aload_n 0, 1) := by decide +kernel
theorem d_Mo_start_1 : decode b_Mo_start 1 = .ok (.iconst 0, 1) := by decide +kernel
theorem d_Mo_start_2 : decode b_Mo_start 2 = .ok (.putfield 1, 3) := by decide +kernel
theorem d_Mo_start_5 : decode b_Mo_start 5 = .ok (.aload_n 0, 1) := by decide +kernel
theorem d_Mo_start_6 : decode b_Mo_start 6 = .ok (.iload_n 1, 1) := by decide +kernel
theorem d_Mo_start_7 : decode b_Mo_start 7 = .ok (.invokevirtual 118, 3) := by decide +kernel
theorem d_Mo_start_10 : decode b_Mo_start 10 = .ok (.ifCond .ne 17, 3) := by decide +kernel
theorem d_Mo_start_13 : decode b_Mo_start 13 = .ok (.iload_n 2, 1) := by decide +kernel
theorem d_Mo_start_14 : decode b_Mo_start 14 = .ok (.i2l, 1) := by decide +kernel
theorem d_Mo_start_15 : decode b_Mo_start 15 = .ok (.ldc2_w 102, 3) := by decide +kernel
theorem d_Mo_start_18 : decode b_Mo_start 18 = .ok (.ldc2_w 104, 3) := by decide +kernel
theorem d_Mo_start_21 : decode b_Mo_start 21 = .ok (.invokestatic 88, 3) := by decide +kernel
theorem d_Mo_start_24 : decode b_Mo_start 24 = .ok (.ifCond .ne 7, 3) := by decide +kernel
theorem d_Mo_start_27 : decode b_Mo_start 27 = .ok (.sipush (-1000), 3) := by decide +kernel
theorem d_Mo_start_30 : decode b_Mo_start 30 = .ok (.ireturn, 1) := by decide +kernel
theorem d_Mo_start_31 : decode b_Mo_start 31 = .ok (.aload_n 0, 1) := by decide +kernel
theorem d_Mo_start_32 : decode b_Mo_start 32 = .ok (.getfield 30, 3) := by decide +kernel
theorem d_Mo_start_35 : decode b_Mo_start 35 = .ok (.iload_n 1, 1) := by decide +kernel
theorem d_Mo_start_36 : decode b_Mo_start 36 = .ok (.iaload, 1) := by decide +kernel
theorem d_Mo_start_37 : decode b_Mo_start 37 = .ok (.istore_n 3, 1) := by decide +kernel
theorem d_Mo_start_38 : decode b_Mo_start 38 = .ok (.aload_n 0, 1) := by decide +kernel
theorem d_Mo_start_39 : decode b_Mo_start 39 = .ok (.getfield 30, 3) := by decide +kernel
theorem d_Mo_start_42 : decode b_Mo_start 42 = .ok (.iload_n 1, 1) := by decide +kernel
theorem d_Mo_start_43 : decode b_Mo_start 43 = .ok (.iload_n 2, 1) := by decide +kernel
theorem d_Mo_start_44 : decode b_Mo_start 44 = .ok (.iastore, 1) := by decide +kernel
theorem d_Mo_start_45 : decode b_Mo_start 45 = .ok (.iload_n 3, 1) := by decide +kernel
theorem d_Mo_start_46 : decode b_Mo_start 46 = .ok (.ireturn, 1) := by decide +kernel
theorem d_Mo_offer_0 : decode b_Mo_offer 0 = .ok (.aload_n 0, 1) := by decide +kernel
theorem d_Mo_offer_1 : decode b_Mo_offer 1 = .ok (.iconst 0, 1) := by decide +kernel
theorem d_Mo_offer_2 : decode b_Mo_offer 2 = .ok (.putfield 1, 3) := by decide +kernel
theorem d_Mo_offer_5 : decode b_Mo_offer 5 = .ok (.iconst 0, 1) := by decide +kernel
theorem d_Mo_offer_6 : decode b_Mo_offer 6 = .ok (.istore_n 1, 1) := by decide +kernel
theorem d_Mo_offer_7 : decode b_Mo_offer 7 = .ok (.iconst 0, 1) := by decide +kernel
theorem d_Mo_offer_8 : decode b_Mo_offer 8 = .ok (.istore_n 2, 1) := by decide +kernel
theorem d_Mo_offer_9 : decode b_Mo_offer 9 = .ok (.iload_n 2, 1) := by decide +kernel
theorem d_Mo_offer_10 : decode b_Mo_offer 10 = .ok (.aload_n 0, 1) := by decide +kernel
theorem d_Mo_offer_11 : decode b_Mo_offer 11 = .ok (.getfield 85, 3) := by decide +kernel
theorem d_Mo_offer_14 : decode b_Mo_offer 14 = .ok (.if_icmp .ge 54, 3) := by decide +kernel
theorem d_Mo_offer_17 : decode b_Mo_offer 17 = .ok (.aload_n 0, 1) := by decide +kernel
theorem d_Mo_offer_18 : decode b_Mo_offer 18 = .ok (.getfield 30, 3) := by decide +kernel
theorem d_Mo_offer_21 : decode b_Mo_offer 21 = .ok (.iload_n 2, 1) := by decide +kernel
theorem d_Mo_offer_22 : decode b_Mo_offer 22 = .ok (.iaload, 1) := by decide +kernel
theorem d_Mo_offer_23 : decode b_Mo_offer 23 = .ok (.i2l, 1) := by decide +kernel
theorem d_Mo_offer_24 : decode b_Mo_offer 24 = .ok (.aload_n 0, 1) := by decide +kernel
theorem d_Mo_offer_25 : decode b_Mo_offer 25 = .ok (.getfield 13, 3) := by decide +kernel
theorem d_Mo_offer_28 : decode b_Mo_offer 28 = .ok (.iload_n 2, 1) := by decide +kernel
theorem d_Mo_offer_29 : decode b_Mo_offer 29 = .ok (.iaload, 1) := by decide +kernel
theorem d_Mo_offer_30 : decode b_Mo_offer 30 = .ok (.i2l, 1) := by decide +kernel
theorem d_Mo_offer_31 : decode b_Mo_offer 31 = .ok (.aload_n 0, 1) := by decide +kernel
theorem d_Mo_offer_32 : decode b_Mo_offer 32 = .ok (.getfield 17, 3) := by decide +kernel
theorem d_Mo_offer_35 : decode b_Mo_offer 35 = .ok (.iload_n 2, 1) := by decide +kernel
theorem d_Mo_offer_36 : decode b_Mo_offer 36 = .ok (.iaload, 1) := by decide +kernel
theorem d_Mo_offer_37 : decode b_Mo_offer 37 = .ok (.i2l, 1) := by decide +kernel
theorem d_Mo_offer_38 : decode b_Mo_offer 38 = .ok (.invokestatic 88, 3) := by decide +kernel
theorem d_Mo_offer_41 : decode b_Mo_offer 41 = .ok (.ifCond .ne 5, 3) := by decide +kernel
theorem d_Mo_offer_44 : decode b_Mo_offer 44 = .ok (.iconst 0, 1) := by decide +kernel
theorem d_Mo_offer_45 : decode b_Mo_offer 45 = .ok (.ireturn, 1) := by decide +kernel
theorem d_Mo_offer_46 : decode b_Mo_offer 46 = .ok (.iload_n 1, 1) := by decide +kernel
theorem d_Mo_offer_47 : decode b_Mo_offer 47 = .ok (.aload_n 0, 1) := by decide +kernel
theorem d_Mo_offer_48 : decode b_Mo_offer 48 = .ok (.getfield 27, 3) := by decide +kernel
theorem d_Mo_offer_51 : decode b_Mo_offer 51 = .ok (.iload_n 2, 1) := by decide +kernel
theorem d_Mo_offer_52 : decode b_Mo_offer 52 = .ok (.iaload, 1) := by decide +kernel
theorem d_Mo_offer_53 : decode b_Mo_offer 53 = .ok (.aload_n 0, 1) := by decide +kernel
theorem d_Mo_offer_54 : decode b_Mo_offer 54 = .ok (.getfield 30, 3) := by decide +kernel
theorem d_Mo_offer_57 : decode b_Mo_offer 57 = .ok (.iload_n 2, 1) := by decide +kernel
theorem d_Mo_offer_58 : decode b_Mo_offer 58 = .ok (.iaload, 1) := by decide +kernel
theorem d_Mo_offer_59 : decode b_Mo_offer 59 = .ok (.imul, 1) := by decide +kernel
theorem d_Mo_offer_60 : decode b_Mo_offer 60 = .ok (.iadd, 1) := by decide +kernel
theorem d_Mo_offer_61 : decode b_Mo_offer 61 = .ok (.istore_n 1, 1) := by decide +kernel
theorem d_Mo_offer_62 : decode b_Mo_offer 62 = .ok (.iinc 2 1, 3) := by decide +kernel
theorem d_Mo_offer_65 : decode b_Mo_offer 65 = .ok (.goto (-56), 3) := by decide +kernel
theorem d_Mo_offer_68 : decode b_Mo_offer 68 = .ok (.iconst 0, 1) := by decide +kernel
theorem d_Mo_offer_69 : decode b_Mo_offer 69 = .ok (.istore_n 2, 1) := by decide +kernel
theorem d_Mo_offer_70 : decode b_Mo_offer 70 = .ok (.iload_n 2, 1) := by decide +kernel
theorem d_Mo_offer_71 : decode b_Mo_offer 71 = .ok (.aload_n 0, 1) := by decide +kernel
theorem d_Mo_offer_72 : decode b_Mo_offer 72 = .ok (.getfield 115, 3) := by decide +kernel
theorem d_Mo_offer_75 : decode b_Mo_offer 75 = .ok (.if_icmp .ge 131, 3) := by decide +kernel
theorem d_Mo_offer_78 : decode b_Mo_offer 78 = .ok (.iconst 0, 1) := by decide +kernel
theorem d_Mo_offer_79 : decode b_Mo_offer 79 = .ok (.istore_n 3, 1) := by decide +kernel
theorem d_Mo_offer_80 : decode b_Mo_offer 80 = .ok (.iconst 0, 1) := by decide +kernel
theorem d_Mo_offer_81 : decode b_Mo_offer 81 = .ok (.istore 4, 2) := by decide +kernel
theorem d_Mo_offer_83 : decode b_Mo_offer 83 = .ok (.iload 4, 2) := by decide +kernel
theorem d_Mo_offer_85 : decode b_Mo_offer 85 = .ok (.aload_n 0, 1) := by decide +kernel
theorem d_Mo_offer_86 : decode b_Mo_offer 86 = .ok (.getfield 85, 3) := by decide +kernel
theorem d_Mo_offer_89 : decode b_Mo_offer 89 = .ok (.if_icmp .ge 32, 3) := by decide +kernel
theorem d_Mo_offer_92 : decode b_Mo_offer 92 = .ok (.iload_n 3, 1) := by decide +kernel
theorem d_Mo_offer_93 : decode b_Mo_offer 93 = .ok (.aload_n 0, 1) := by decide +kernel
theorem d_Mo_offer_94 : decode b_Mo_offer 94 = .ok (.getfield 33, 3) := by decide +kernel
theorem d_Mo_offer_97 : decode b_Mo_offer 97 = .ok (.bipush 8, 2) := by decide +kernel
theorem d_Mo_offer_99 : decode b_Mo_offer 99 = .ok (.iload_n 2, 1) := by decide +kernel
theorem d_Mo_offer_100 : decode b_Mo_offer 100 = .ok (.imul, 1) := by decide +kernel
theorem d_Mo_offer_101 : decode b_Mo_offer 101 = .ok (.iload 4, 2) := by decide +kernel
theorem d_Mo_offer_103 : decode b_Mo_offer 103 = .ok (.iadd, 1) := by decide +kernel
theorem d_Mo_offer_104 : decode b_Mo_offer 104 = .ok (.iaload, 1) := by decide +kernel
theorem d_Mo_offer_105 : decode b_Mo_offer 105 = .ok (.aload_n 0, 1) := by decide +kernel
theorem d_Mo_offer_106 : decode b_Mo_offer 106 = .ok (.getfield 30, 3) := by decide +kernel
theorem d_Mo_offer_109 : decode b_Mo_offer 109 = .ok (.iload 4, 2) := by decide +kernel
theorem d_Mo_offer_111 : decode b_Mo_offer 111 = .ok (.iaload, 1) := by decide +kernel
theorem d_Mo_offer_112 : decode b_Mo_offer 112 = .ok (.imul, 1) := by decide +kernel
theorem d_Mo_offer_113 : decode b_Mo_offer 113 = .ok (.iadd, 1) := by decide +kernel
theorem d_Mo_offer_114 : decode b_Mo_offer 114 = .ok (.istore_n 3, 1) := by decide +kernel
theorem d_Mo_offer_115 : decode b_Mo_offer 115 = .ok (.iinc 4 1, 3) := by decide +kernel
theorem d_Mo_offer_118 : decode b_Mo_offer 118 = .ok (.goto (-35), 3) := by decide +kernel
theorem d_Mo_offer_121 : decode b_Mo_offer 121 = .ok (.aload_n 0, 1) := by decide +kernel
theorem d_Mo_offer_122 : decode b_Mo_offer 122 = .ok (.getfield 36, 3) := by decide +kernel
theorem d_Mo_offer_125 : decode b_Mo_offer 125 = .ok (.iload_n 2, 1) := by decide +kernel
theorem d_Mo_offer_126 : decode b_Mo_offer 126 = .ok (.iaload, 1) := by decide +kernel
theorem d_Mo_offer_127 : decode b_Mo_offer 127 = .ok (.ifCond .ne 21, 3) := by decide +kernel
theorem d_Mo_offer_130 : decode b_Mo_offer 130 = .ok (.iload_n 3, 1) := by decide +kernel
theorem d_Mo_offer_131 : decode b_Mo_offer 131 = .ok (.aload_n 0, 1) := by decide +kernel
theorem d_Mo_offer_132 : decode b_Mo_offer 132 = .ok (.getfield 39, 3) := by decide +kernel
theorem d_Mo_offer_135 : decode b_Mo_offer 135 = .ok (.iload_n 2, 1) := by decide +kernel
theorem d_Mo_offer_136 : decode b_Mo_offer 136 = .ok (.iaload, 1) := by decide +kernel
theorem d_Mo_offer_137 : decode b_Mo_offer 137 = .ok (.if_icmp .gt 7, 3) := by decide +kernel
theorem d_Mo_offer_140 : decode b_Mo_offer 140 = .ok (.iconst 1, 1) := by decide +kernel
theorem d_Mo_offer_141 : decode b_Mo_offer 141 = .ok (.goto 50, 3) := by decide +kernel
theorem d_Mo_offer_144 : decode b_Mo_offer 144 = .ok (.iconst 0, 1) := by decide +kernel
theorem d_Mo_offer_145 : decode b_Mo_offer 145 = .ok (.goto 46, 3) := by decide +kernel
theorem d_Mo_offer_148 : decode b_Mo_offer 148 = .ok (.aload_n 0, 1) := by decide +kernel
theorem d_Mo_offer_149 : decode b_Mo_offer 149 = .ok (.getfield 36, 3) := by decide +kernel
theorem d_Mo_offer_152 : decode b_Mo_offer 152 = .ok (.iload_n 2, 1) := by decide +kernel
theorem d_Mo_offer_153 : decode b_Mo_offer 153 = .ok (.iaload, 1) := by decide +kernel
theorem d_Mo_offer_154 : decode b_Mo_offer 154 = .ok (.iconst 1, 1) := by decide +kernel
theorem d_Mo_offer_155 : decode b_Mo_offer 155 = .ok (.if_icmp .ne 21, 3) := by decide +kernel
theorem d_Mo_offer_158 : decode b_Mo_offer 158 = .ok (.iload_n 3, 1) := by decide +kernel
theorem d_Mo_offer_159 : decode b_Mo_offer 159 = .ok (.aload_n 0, 1) := by decide +kernel
theorem d_Mo_offer_160 : decode b_Mo_offer 160 = .ok (.getfield 39, 3) := by decide +kernel
theorem d_Mo_offer_163 : decode b_Mo_offer 163 = .ok (.iload_n 2, 1) := by decide +kernel
theorem d_Mo_offer_164 : decode b_Mo_offer 164 = .ok (.iaload, 1) := by decide +kernel
theorem d_Mo_offer_165 : decode b_Mo_offer 165 = .ok (.if_icmp .lt 7, 3) := by decide +kernel
theorem d_Mo_offer_168 : decode b_Mo_offer 168 = .ok (.iconst 1, 1) := by decide +kernel
theorem d_Mo_offer_169 : decode b_Mo_offer 169 = .ok (.goto 22, 3) := by decide +kernel
theorem d_Mo_offer_172 : decode b_Mo_offer 172 = .ok (.iconst 0, 1) := by decide +kernel
theorem d_Mo_offer_173 : decode b_Mo_offer 173 = .ok (.goto 18, 3) := by decide +kernel
theorem d_Mo_offer_176 : decode b_Mo_offer 176 = .ok (.iload_n 3, 1) := by decide +kernel
theorem d_Mo_offer_177 : decode b_Mo_offer 177 = .ok (.aload_n 0, 1) := by decide +kernel
theorem d_Mo_offer_178 : decode b_Mo_offer 178 = .ok (.getfield 39, 3) := by decide +kernel
theorem d_Mo_offer_181 : decode b_Mo_offer 181 = .ok (.iload_n 2, 1) := by decide +kernel
theorem d_Mo_offer_182 : decode b_Mo_offer 182 = .ok (.iaload, 1) := by decide +kernel
theorem d_Mo_offer_183 : decode b_Mo_offer 183 = .ok (.if_icmp .ne 7, 3) := by decide +kernel
theorem d_Mo_offer_186 : decode b_Mo_offer 186 = .ok (.iconst 1, 1) := by decide +kernel
theorem d_Mo_offer_187 : decode b_Mo_offer 187 = .ok (.goto 4, 3) := by decide +kernel
theorem d_Mo_offer_190 : decode b_Mo_offer 190 = .ok (.iconst 0, 1) := by decide +kernel
theorem d_Mo_offer_191 : decode b_Mo_offer 191 = .ok (.istore 4, 2) := by decide +kernel
theorem d_Mo_offer_193 : decode b_Mo_offer 193 = .ok (.iload 4, 2) := by decide +kernel
theorem d_Mo_offer_195 : decode b_Mo_offer 195 = .ok (.ifCond .ne 5, 3) := by decide +kernel
theorem d_Mo_offer_198 : decode b_Mo_offer 198 = .ok (.iconst 0, 1) := by decide +kernel
theorem d_Mo_offer_199 : decode b_Mo_offer 199 = .ok (.ireturn, 1) := by decide +kernel
theorem d_Mo_offer_200 : decode b_Mo_offer 200 = .ok (.iinc 2 1, 3) := by decide +kernel
theorem d_Mo_offer_203 : decode b_Mo_offer 203 = .ok (.goto (-133), 3) := by decide +kernel
theorem d_Mo_offer_206 : decode b_Mo_offer 206 = .ok (.aload_n 0, 1) := by decide +kernel
theorem d_Mo_offer_207 : decode b_Mo_offer 207 = .ok (.getfield 98, 3) := by decide +kernel
theorem d_Mo_offer_210 : decode b_Mo_offer 210 = .ok (.ifCond .eq 13, 3) := by decide +kernel
theorem d_Mo_offer_213 : decode b_Mo_offer 213 = .ok (.iload_n 1, 1) := by decide +kernel
theorem d_Mo_offer_214 : decode b_Mo_offer 214 = .ok (.aload_n 0, 1) := by decide +kernel
theorem d_Mo_offer_215 : decode b_Mo_offer 215 = .ok (.getfield 136, 3) := by decide +kernel
theorem d_Mo_offer_218 : decode b_Mo_offer 218 = .ok (.if_icmp .lt 5, 3) := by decide +kernel
theorem d_Mo_offer_221 : decode b_Mo_offer 221 = .ok (.iconst 0, 1) := by decide +kernel
theorem d_Mo_offer_222 : decode b_Mo_offer 222 = .ok (.ireturn, 1) := by decide +kernel
theorem d_Mo_offer_223 : decode b_Mo_offer 223 = .ok (.aload_n 0, 1) := by decide +kernel
theorem d_Mo_offer_224 : decode b_Mo_offer 224 = .ok (.iconst 1, 1) := by decide +kernel
theorem d_Mo_offer_225 : decode b_Mo_offer 225 = .ok (.putfield 98, 3) := by decide +kernel
theorem d_Mo_offer_228 : decode b_Mo_offer 228 = .ok (.aload_n 0, 1) := by decide +kernel
theorem d_Mo_offer_229 : decode b_Mo_offer 229 = .ok (.iload_n 1, 1) := by decide +kernel
theorem d_Mo_offer_230 : decode b_Mo_offer 230 = .ok (.putfield 136, 3) := by decide +kernel
theorem d_Mo_offer_233 : decode b_Mo_offer 233 = .ok (.iconst 0, 1) := by decide +kernel
theorem d_Mo_offer_234 : decode b_Mo_offer 234 = .ok (.istore_n 2, 1) := by decide +kernel
theorem d_Mo_offer_235 : decode b_Mo_offer 235 = .ok (.iload_n 2, 1) := by decide +kernel
theorem d_Mo_offer_236 : decode b_Mo_offer 236 = .ok (.aload_n 0, 1) := by decide +kernel
theorem d_Mo_offer_237 : decode b_Mo_offer 237 = .ok (.getfield 85, 3) := by decide +kernel
theorem d_Mo_offer_240 : decode b_Mo_offer 240 = .ok (.if_icmp .ge 21, 3) := by decide +kernel
theorem d_Mo_offer_243 : decode b_Mo_offer 243 = .ok (.aload_n 0, 1) := by decide +kernel
theorem d_Mo_offer_244 : decode b_Mo_offer 244 = .ok (.getfield 49, 3) := by decide +kernel
theorem d_Mo_offer_247 : decode b_Mo_offer 247 = .ok (.iload_n 2, 1) := by decide +kernel
theorem d_Mo_offer_248 : decode b_Mo_offer 248 = .ok (.aload_n 0, 1) := by decide +kernel
theorem d_Mo_offer_249 : decode b_Mo_offer 249 = .ok (.getfield 30, 3) := by decide +kernel
theorem d_Mo_offer_252 : decode b_Mo_offer 252 = .ok (.iload_n 2, 1) := by decide +kernel
theorem d_Mo_offer_253 : decode b_Mo_offer 253 = .ok (.iaload, 1) := by decide +kernel
theorem d_Mo_offer_254 : decode b_Mo_offer 254 = .ok (.iastore, 1) := by decide +kernel
theorem d_Mo_offer_255 : decode b_Mo_offer 255 = .ok (.iinc 2 1, 3) := by decide +kernel
theorem d_Mo_offer_258 : decode b_Mo_offer 258 = .ok (.goto (-23), 3) := by decide +kernel
theorem d_Mo_offer_261 : decode b_Mo_offer 261 = .ok (.iconst 1, 1) := by decide +kernel
theorem d_Mo_offer_262 : decode b_Mo_offer 262 = .ok (.ireturn, 1) := by decide +kernel
theorem d_Mo_run_0 : decode b_Mo_run 0 = .ok (.aload_n 0, 1) := by decide +kernel
theorem d_Mo_run_1 : decode b_Mo_run 1 = .ok (.iconst 0, 1) := by decide +kernel
theorem d_Mo_run_2 : decode b_Mo_run 2 = .ok (.putfield 1, 3) := by decide +kernel
theorem d_Mo_run_5 : decode b_Mo_run 5 = .ok (.iload_n 1, 1) := by decide +kernel
theorem d_Mo_run_6 : decode b_Mo_run 6 = .ok (.i2l, 1) := by decide +kernel
theorem d_Mo_run_7 : decode b_Mo_run 7 = .ok (.lconst 1, 1) := by decide +kernel
theorem d_Mo_run_8 : decode b_Mo_run 8 = .ok (.ldc2_w 185, 3) := by decide +kernel
theorem d_Mo_run_11 : decode b_Mo_run 11 = .ok (.invokestatic 88, 3) := by decide +kernel
theorem d_Mo_run_14 : decode b_Mo_run 14 = .ok (.ifCond .eq 10, 3) := by decide +kernel
theorem d_Mo_run_17 : decode b_Mo_run 17 = .ok (.aload_n 0, 1) := by decide +kernel
theorem d_Mo_run_18 : decode b_Mo_run 18 = .ok (.getfield 85, 3) := by decide +kernel
theorem d_Mo_run_21 : decode b_Mo_run 21 = .ok (.ifCond .ne 5, 3) := by decide +kernel
theorem d_Mo_run_24 : decode b_Mo_run 24 = .ok (.iconst (-1), 1) := by decide +kernel
theorem d_Mo_run_25 : decode b_Mo_run 25 = .ok (.ireturn, 1) := by decide +kernel
theorem d_Mo_run_26 : decode b_Mo_run 26 = .ok (.aload_n 0, 1) := by decide +kernel
theorem d_Mo_run_27 : decode b_Mo_run 27 = .ok (.getfield 92, 3) := by decide +kernel
theorem d_Mo_run_30 : decode b_Mo_run 30 = .ok (.ifCond .ne 12, 3) := by decide +kernel
theorem d_Mo_run_33 : decode b_Mo_run 33 = .ok (.aload_n 0, 1) := by decide +kernel
theorem d_Mo_run_34 : decode b_Mo_run 34 = .ok (.iconst (-1), 1) := by decide +kernel
theorem d_Mo_run_35 : decode b_Mo_run 35 = .ok (.iconst (-1), 1) := by decide +kernel
theorem d_Mo_run_36 : decode b_Mo_run 36 = .ok (.iconst 0, 1) := by decide +kernel
theorem d_Mo_run_37 : decode b_Mo_run 37 = .ok (.iconst 0, 1) := by decide +kernel
theorem d_Mo_run_38 : decode b_Mo_run 38 = .ok (.invokevirtual 181, 3) := by decide +kernel
theorem d_Mo_run_41 : decode b_Mo_run 41 = .ok (.istore_n 2, 1) := by decide +kernel
theorem d_Mo_run_42 : decode b_Mo_run 42 = .ok (.iconst 0, 1) := by decide +kernel
theorem d_Mo_run_43 : decode b_Mo_run 43 = .ok (.istore_n 2, 1) := by decide +kernel
theorem d_Mo_run_44 : decode b_Mo_run 44 = .ok (.iload_n 2, 1) := by decide +kernel
theorem d_Mo_run_45 : decode b_Mo_run 45 = .ok (.iload_n 1, 1) := by decide +kernel
theorem d_Mo_run_46 : decode b_Mo_run 46 = .ok (.if_icmp .ge 42, 3) := by decide +kernel
theorem d_Mo_run_49 : decode b_Mo_run 49 = .ok (.aload_n 0, 1) := by decide +kernel
theorem d_Mo_run_50 : decode b_Mo_run 50 = .ok (.invokevirtual 187, 3) := by decide +kernel
theorem d_Mo_run_53 : decode b_Mo_run 53 = .ok (.istore_n 3, 1) := by decide +kernel
theorem d_Mo_run_54 : decode b_Mo_run 54 = .ok (.iload_n 3, 1) := by decide +kernel
theorem d_Mo_run_55 : decode b_Mo_run 55 = .ok (.ifCond .ge 6, 3) := by decide +kernel
theorem d_Mo_run_58 : decode b_Mo_run 58 = .ok (.goto 30, 3) := by decide +kernel
theorem d_Mo_run_61 : decode b_Mo_run 61 = .ok (.aload_n 0, 1) := by decide +kernel
theorem d_Mo_run_62 : decode b_Mo_run 62 = .ok (.iload_n 3, 1) := by decide +kernel
theorem d_Mo_run_63 : decode b_Mo_run 63 = .ok (.invokevirtual 190, 3) := by decide +kernel
theorem d_Mo_run_66 : decode b_Mo_run 66 = .ok (.ifCond .ne 6, 3) := by decide +kernel
theorem d_Mo_run_69 : decode b_Mo_run 69 = .ok (.bipush (-3), 2) := by decide +kernel
theorem d_Mo_run_71 : decode b_Mo_run 71 = .ok (.ireturn, 1) := by decide +kernel
theorem d_Mo_run_72 : decode b_Mo_run 72 = .ok (.aload_n 0, 1) := by decide +kernel
theorem d_Mo_run_73 : decode b_Mo_run 73 = .ok (.dup, 1) := by decide +kernel
theorem d_Mo_run_74 : decode b_Mo_run 74 = .ok (.getfield 95, 3) := by decide +kernel
theorem d_Mo_run_77 : decode b_Mo_run 77 = .ok (.iconst 1, 1) := by decide +kernel
theorem d_Mo_run_78 : decode b_Mo_run 78 = .ok (.iadd, 1) := by decide +kernel
theorem d_Mo_run_79 : decode b_Mo_run 79 = .ok (.putfield 95, 3) := by decide +kernel
theorem d_Mo_run_82 : decode b_Mo_run 82 = .ok (.iinc 2 1, 3) := by decide +kernel
theorem d_Mo_run_85 : decode b_Mo_run 85 = .ok (.goto (-41), 3) := by decide +kernel
theorem d_Mo_run_88 : decode b_Mo_run 88 = .ok (.aload_n 0, 1) := by decide +kernel
theorem d_Mo_run_89 : decode b_Mo_run 89 = .ok (.invokevirtual 187, 3) := by decide +kernel
theorem d_Mo_run_92 : decode b_Mo_run 92 = .ok (.ifCond .lt 7, 3) := by decide +kernel
theorem d_Mo_run_95 : decode b_Mo_run 95 = .ok (.iconst 2, 1) := by decide +kernel
theorem d_Mo_run_96 : decode b_Mo_run 96 = .ok (.goto 15, 3) := by decide +kernel
theorem d_Mo_run_99 : decode b_Mo_run 99 = .ok (.aload_n 0, 1) := by decide +kernel
theorem d_Mo_run_100 : decode b_Mo_run 100 = .ok (.getfield 98, 3) := by decide +kernel
theorem d_Mo_run_103 : decode b_Mo_run 103 = .ok (.ifCond .eq 7, 3) := by decide +kernel
theorem d_Mo_run_106 : decode b_Mo_run 106 = .ok (.iconst 1, 1) := by decide +kernel
theorem d_Mo_run_107 : decode b_Mo_run 107 = .ok (.goto 4, 3) := by decide +kernel
theorem d_Mo_run_110 : decode b_Mo_run 110 = .ok (.iconst 0, 1) := by decide +kernel
theorem d_Mo_run_111 : decode b_Mo_run 111 = .ok (.ireturn, 1) := by decide +kernel
theorem d_Mo_newNode_0 : decode b_Mo_newNode 0 = .ok (.aload_n 0, 1) := by decide +kernel
theorem d_Mo_newNode_1 : decode b_Mo_newNode 1 = .ok (.getfield 92, 3) := by decide +kernel
theorem d_Mo_newNode_4 : decode b_Mo_newNode 4 = .ok (.istore 5, 2) := by decide +kernel
theorem d_Mo_newNode_6 : decode b_Mo_newNode 6 = .ok (.aload_n 0, 1) := by decide +kernel
theorem d_Mo_newNode_7 : decode b_Mo_newNode 7 = .ok (.dup, 1) := by decide +kernel
theorem d_Mo_newNode_8 : decode b_Mo_newNode 8 = .ok (.getfield 92, 3) := by decide +kernel
theorem d_Mo_newNode_11 : decode b_Mo_newNode 11 = .ok (.iconst 1, 1) := by decide +kernel
theorem d_Mo_newNode_12 : decode b_Mo_newNode 12 = .ok (.iadd, 1) := by decide +kernel
theorem d_Mo_newNode_13 : decode b_Mo_newNode 13 = .ok (.putfield 92, 3) := by decide +kernel
theorem d_Mo_newNode_16 : decode b_Mo_newNode 16 = .ok (.aload_n 0, 1) := by decide +kernel
theorem d_Mo_newNode_17 : decode b_Mo_newNode 17 = .ok (.getfield 52, 3) := by decide +kernel
theorem d_Mo_newNode_20 : decode b_Mo_newNode 20 = .ok (.iload 5, 2) := by decide +kernel
theorem d_Mo_newNode_22 : decode b_Mo_newNode 22 = .ok (.iload_n 1, 1) := by decide +kernel
theorem d_Mo_newNode_23 : decode b_Mo_newNode 23 = .ok (.iastore, 1) := by decide +kernel
theorem d_Mo_newNode_24 : decode b_Mo_newNode 24 = .ok (.aload_n 0, 1) := by decide +kernel
theorem d_Mo_newNode_25 : decode b_Mo_newNode 25 = .ok (.getfield 55, 3) := by decide +kernel
theorem d_Mo_newNode_28 : decode b_Mo_newNode 28 = .ok (.iload 5, 2) := by decide +kernel
theorem d_Mo_newNode_30 : decode b_Mo_newNode 30 = .ok (.iload_n 2, 1) := by decide +kernel
theorem d_Mo_newNode_31 : decode b_Mo_newNode 31 = .ok (.iastore, 1) := by decide +kernel
theorem d_Mo_newNode_32 : decode b_Mo_newNode 32 = .ok (.aload_n 0, 1) := by decide +kernel
theorem d_Mo_newNode_33 : decode b_Mo_newNode 33 = .ok (.getfield 58, 3) := by decide +kernel
theorem d_Mo_newNode_36 : decode b_Mo_newNode 36 = .ok (.iload 5, 2) := by decide +kernel
theorem d_Mo_newNode_38 : decode b_Mo_newNode 38 = .ok (.iload_n 3, 1) := by decide +kernel
theorem d_Mo_newNode_39 : decode b_Mo_newNode 39 = .ok (.iastore, 1) := by decide +kernel
theorem d_Mo_newNode_40 : decode b_Mo_newNode 40 = .ok (.aload_n 0, 1) := by decide +kernel
theorem d_Mo_newNode_41 : decode b_Mo_newNode 41 = .ok (.getfield 61, 3) := by decide +kernel
theorem d_Mo_newNode_44 : decode b_Mo_newNode 44 = .ok (.iload 5, 2) := by decide +kernel
theorem d_Mo_newNode_46 : decode b_Mo_newNode 46 = .ok (.iload 4, 2) := by decide +kernel
theorem d_Mo_newNode_48 : decode b_Mo_newNode 48 = .ok (.iastore, 1) := by decide +kernel
theorem d_Mo_newNode_49 : decode b_Mo_newNode 49 = .ok (.aload_n 0, 1) := by decide +kernel
theorem d_Mo_newNode_50 : decode b_Mo_newNode 50 = .ok (.getfield 70, 3) := by decide +kernel
theorem d_Mo_newNode_53 : decode b_Mo_newNode 53 = .ok (.iload 5, 2) := by decide +kernel
theorem d_Mo_newNode_55 : decode b_Mo_newNode 55 = .ok (.bipush (-2), 2) := by decide +kernel
theorem d_Mo_newNode_57 : decode b_Mo_newNode 57 = .ok (.iastore, 1) := by decide +kernel
theorem d_Mo_newNode_58 : decode b_Mo_newNode 58 = .ok (.aload_n 0, 1) := by decide +kernel
theorem d_Mo_newNode_59 : decode b_Mo_newNode 59 = .ok (.iload_n 1, 1) := by decide +kernel
theorem d_Mo_newNode_60 : decode b_Mo_newNode 60 = .ok (.invokevirtual 154, 3) := by decide +kernel
theorem d_Mo_newNode_63 : decode b_Mo_newNode 63 = .ok (.iload_n 1, 1) := by decide +kernel
theorem d_Mo_newNode_64 : decode b_Mo_newNode 64 = .ok (.ifCond .lt 11, 3) := by decide +kernel
theorem d_Mo_newNode_67 : decode b_Mo_newNode 67 = .ok (.aload_n 0, 1) := by decide +kernel
theorem d_Mo_newNode_68 : decode b_Mo_newNode 68 = .ok (.iload_n 2, 1) := by decide +kernel
theorem d_Mo_newNode_69 : decode b_Mo_newNode 69 = .ok (.iload_n 3, 1) := by decide +kernel
theorem d_Mo_newNode_70 : decode b_Mo_newNode 70 = .ok (.iload 4, 2) := by decide +kernel
theorem d_Mo_newNode_72 : decode b_Mo_newNode 72 = .ok (.invokevirtual 158, 3) := by decide +kernel
theorem d_Mo_newNode_75 : decode b_Mo_newNode 75 = .ok (.aload_n 0, 1) := by decide +kernel
theorem d_Mo_newNode_76 : decode b_Mo_newNode 76 = .ok (.getfield 67, 3) := by decide +kernel
theorem d_Mo_newNode_79 : decode b_Mo_newNode 79 = .ok (.iload 5, 2) := by decide +kernel
theorem d_Mo_newNode_81 : decode b_Mo_newNode 81 = .ok (.aload_n 0, 1) := by decide +kernel
theorem d_Mo_newNode_82 : decode b_Mo_newNode 82 = .ok (.invokevirtual 162, 3) := by decide +kernel
theorem d_Mo_newNode_85 : decode b_Mo_newNode 85 = .ok (.iastore, 1) := by decide +kernel
theorem d_Mo_newNode_86 : decode b_Mo_newNode 86 = .ok (.aload_n 0, 1) := by decide +kernel
theorem d_Mo_newNode_87 : decode b_Mo_newNode 87 = .ok (.getfield 64, 3) := by decide +kernel
theorem d_Mo_newNode_90 : decode b_Mo_newNode 90 = .ok (.iload 5, 2) := by decide +kernel
theorem d_Mo_newNode_92 : decode b_Mo_newNode 92 = .ok (.aload_n 0, 1) := by decide +kernel
theorem d_Mo_newNode_93 : decode b_Mo_newNode 93 = .ok (.getfield 67, 3) := by decide +kernel
theorem d_Mo_newNode_96 : decode b_Mo_newNode 96 = .ok (.iload 5, 2) := by decide +kernel
theorem d_Mo_newNode_98 : decode b_Mo_newNode 98 = .ok (.iaload, 1) := by decide +kernel
theorem d_Mo_newNode_99 : decode b_Mo_newNode 99 = .ok (.bipush (-2), 2) := by decide +kernel
theorem d_Mo_newNode_101 : decode b_Mo_newNode 101 = .ok (.if_icmp .ne 7, 3) := by decide +kernel
theorem d_Mo_newNode_104 : decode b_Mo_newNode 104 = .ok (.iconst 0, 1) := by decide +kernel
theorem d_Mo_newNode_105 : decode b_Mo_newNode 105 = .ok (.goto 4, 3) := by decide +kernel
theorem d_Mo_newNode_108 : decode b_Mo_newNode 108 = .ok (.iconst 2, 1) := by decide +kernel
theorem d_Mo_newNode_109 : decode b_Mo_newNode 109 = .ok (.iastore, 1) := by decide +kernel
theorem d_Mo_newNode_110 : decode b_Mo_newNode 110 = .ok (.iconst 0, 1) := by decide +kernel
theorem d_Mo_newNode_111 : decode b_Mo_newNode 111 = .ok (.istore 6, 2) := by decide +kernel
theorem d_Mo_newNode_113 : decode b_Mo_newNode 113 = .ok (.iload 6, 2) := by decide +kernel
theorem d_Mo_newNode_115 : decode b_Mo_newNode 115 = .ok (.aload_n 0, 1) := by decide +kernel
theorem d_Mo_newNode_116 : decode b_Mo_newNode 116 = .ok (.getfield 85, 3) := by decide +kernel
theorem d_Mo_newNode_119 : decode b_Mo_newNode 119 = .ok (.if_icmp .ge 49, 3) := by decide +kernel
theorem d_Mo_newNode_122 : decode b_Mo_newNode 122 = .ok (.aload_n 0, 1) := by decide +kernel
theorem d_Mo_newNode_123 : decode b_Mo_newNode 123 = .ok (.getfield 73, 3) := by decide +kernel
theorem d_Mo_newNode_126 : decode b_Mo_newNode 126 = .ok (.bipush 8, 2) := by decide +kernel
theorem d_Mo_newNode_128 : decode b_Mo_newNode 128 = .ok (.iload 5, 2) := by decide +kernel
theorem d_Mo_newNode_130 : decode b_Mo_newNode 130 = .ok (.imul, 1) := by decide +kernel
theorem d_Mo_newNode_131 : decode b_Mo_newNode 131 = .ok (.iload 6, 2) := by decide +kernel
theorem d_Mo_newNode_133 : decode b_Mo_newNode 133 = .ok (.iadd, 1) := by decide +kernel
theorem d_Mo_newNode_134 : decode b_Mo_newNode 134 = .ok (.aload_n 0, 1) := by decide +kernel
theorem d_Mo_newNode_135 : decode b_Mo_newNode 135 = .ok (.getfield 79, 3) := by decide +kernel
theorem d_Mo_newNode_138 : decode b_Mo_newNode 138 = .ok (.iload 6, 2) := by decide +kernel
theorem d_Mo_newNode_140 : decode b_Mo_newNode 140 = .ok (.iaload, 1) := by decide +kernel
theorem d_Mo_newNode_141 : decode b_Mo_newNode 141 = .ok (.iastore, 1) := by decide +kernel
theorem d_Mo_newNode_142 : decode b_Mo_newNode 142 = .ok (.aload_n 0, 1) := by decide +kernel
theorem d_Mo_newNode_143 : decode b_Mo_newNode 143 = .ok (.getfield 76, 3) := by decide +kernel
theorem d_Mo_newNode_146 : decode b_Mo_newNode 146 = .ok (.bipush 8, 2) := by decide +kernel
theorem d_Mo_newNode_148 : decode b_Mo_newNode 148 = .ok (.iload 5, 2) := by decide +kernel
theorem d_Mo_newNode_150 : decode b_Mo_newNode 150 = .ok (.imul, 1) := by decide +kernel
theorem d_Mo_newNode_151 : decode b_Mo_newNode 151 = .ok (.iload 6, 2) := by decide +kernel
theorem d_Mo_newNode_153 : decode b_Mo_newNode 153 = .ok (.iadd, 1) := by decide +kernel
theorem d_Mo_newNode_154 : decode b_Mo_newNode 154 = .ok (.aload_n 0, 1) := by decide +kernel
theorem d_Mo_newNode_155 : decode b_Mo_newNode 155 = .ok (.getfield 82, 3) := by decide +kernel
theorem d_Mo_newNode_158 : decode b_Mo_newNode 158 = .ok (.iload 6, 2) := by decide +kernel
theorem d_Mo_newNode_160 : decode b_Mo_newNode 160 = .ok (.iaload, 1) := by decide +kernel
theorem d_Mo_newNode_161 : decode b_Mo_newNode 161 = .ok (.iastore, 1) := by decide +kernel
theorem d_Mo_newNode_162 : decode b_Mo_newNode 162 = .ok (.iinc 6 1, 3) := by decide +kernel
theorem d_Mo_newNode_165 : decode b_Mo_newNode 165 = .ok (.goto (-52), 3) := by decide +kernel
theorem d_Mo_newNode_168 : decode b_Mo_newNode 168 = .ok (.iload 5, 2) := by decide +kernel
theorem d_Mo_newNode_170 : decode b_Mo_newNode 170 = .ok (.ireturn, 1) := by decide +kernel
theorem d_Mo_takeBounds_0 : decode b_Mo_takeBounds 0 = .ok (.iconst 0, 1) := by decide +kernel
theorem d_Mo_takeBounds_1 : decode b_Mo_takeBounds 1 = .ok (.istore_n 2, 1) := by decide +kernel
theorem d_Mo_takeBounds_2 : decode b_Mo_takeBounds 2 = .ok (.iload_n 2, 1) := by decide +kernel
theorem d_Mo_takeBounds_3 : decode b_Mo_takeBounds 3 = .ok (.aload_n 0, 1) := by decide +kernel
theorem d_Mo_takeBounds_4 : decode b_Mo_takeBounds 4 = .ok (.getfield 85, 3) := by decide +kernel
theorem d_Mo_takeBounds_7 : decode b_Mo_takeBounds 7 = .ok (.if_icmp .ge 69, 3) := by decide +kernel
theorem d_Mo_takeBounds_10 : decode b_Mo_takeBounds 10 = .ok (.aload_n 0, 1) := by decide +kernel
theorem d_Mo_takeBounds_11 : decode b_Mo_takeBounds 11 = .ok (.getfield 79, 3) := by decide +kernel
theorem d_Mo_takeBounds_14 : decode b_Mo_takeBounds 14 = .ok (.iload_n 2, 1) := by decide +kernel
theorem d_Mo_takeBounds_15 : decode b_Mo_takeBounds 15 = .ok (.iload_n 1, 1) := by decide +kernel
theorem d_Mo_takeBounds_16 : decode b_Mo_takeBounds 16 = .ok (.ifCond .ge 12, 3) := by decide +kernel
theorem d_Mo_takeBounds_19 : decode b_Mo_takeBounds 19 = .ok (.aload_n 0, 1) := by decide +kernel
theorem d_Mo_takeBounds_20 : decode b_Mo_takeBounds 20 = .ok (.getfield 13, 3) := by decide +kernel
theorem d_Mo_takeBounds_23 : decode b_Mo_takeBounds 23 = .ok (.iload_n 2, 1) := by decide +kernel
theorem d_Mo_takeBounds_24 : decode b_Mo_takeBounds 24 = .ok (.iaload, 1) := by decide +kernel
theorem d_Mo_takeBounds_25 : decode b_Mo_takeBounds 25 = .ok (.goto 14, 3) := by decide +kernel
theorem d_Mo_takeBounds_28 : decode b_Mo_takeBounds 28 = .ok (.aload_n 0, 1) := by decide +kernel
theorem d_Mo_takeBounds_29 : decode b_Mo_takeBounds 29 = .ok (.getfield 73, 3) := by decide +kernel
theorem d_Mo_takeBounds_32 : decode b_Mo_takeBounds 32 = .ok (.bipush 8, 2) := by decide +kernel
theorem d_Mo_takeBounds_34 : decode b_Mo_takeBounds 34 = .ok (.iload_n 1, 1) := by decide +kernel
theorem d_Mo_takeBounds_35 : decode b_Mo_takeBounds 35 = .ok (.imul, 1) := by decide +kernel
theorem d_Mo_takeBounds_36 : decode b_Mo_takeBounds 36 = .ok (.iload_n 2, 1) := by decide +kernel
theorem d_Mo_takeBounds_37 : decode b_Mo_takeBounds 37 = .ok (.iadd, 1) := by decide +kernel
theorem d_Mo_takeBounds_38 : decode b_Mo_takeBounds 38 = .ok (.iaload, 1) := by decide +kernel
theorem d_Mo_takeBounds_39 : decode b_Mo_takeBounds 39 = .ok (.iastore, 1) := by decide +kernel
theorem d_Mo_takeBounds_40 : decode b_Mo_takeBounds 40 = .ok (.aload_n 0, 1) := by decide +kernel
theorem d_Mo_takeBounds_41 : decode b_Mo_takeBounds 41 = .ok (.getfield 82, 3) := by decide +kernel
theorem d_Mo_takeBounds_44 : decode b_Mo_takeBounds 44 = .ok (.iload_n 2, 1) := by decide +kernel
theorem d_Mo_takeBounds_45 : decode b_Mo_takeBounds 45 = .ok (.iload_n 1, 1) := by decide +kernel
theorem d_Mo_takeBounds_46 : decode b_Mo_takeBounds 46 = .ok (.ifCond .ge 12, 3) := by decide +kernel
theorem d_Mo_takeBounds_49 : decode b_Mo_takeBounds 49 = .ok (.aload_n 0, 1) := by decide +kernel
theorem d_Mo_takeBounds_50 : decode b_Mo_takeBounds 50 = .ok (.getfield 17, 3) := by decide +kernel
theorem d_Mo_takeBounds_53 : decode b_Mo_takeBounds 53 = .ok (.iload_n 2, 1) := by decide +kernel
theorem d_Mo_takeBounds_54 : decode b_Mo_takeBounds 54 = .ok (.iaload, 1) := by decide +kernel
theorem d_Mo_takeBounds_55 : decode b_Mo_takeBounds 55 = .ok (.goto 14, 3) := by decide +kernel
theorem d_Mo_takeBounds_58 : decode b_Mo_takeBounds 58 = .ok (.aload_n 0, 1) := by decide +kernel
theorem d_Mo_takeBounds_59 : decode b_Mo_takeBounds 59 = .ok (.getfield 76, 3) := by decide +kernel
theorem d_Mo_takeBounds_62 : decode b_Mo_takeBounds 62 = .ok (.bipush 8, 2) := by decide +kernel
theorem d_Mo_takeBounds_64 : decode b_Mo_takeBounds 64 = .ok (.iload_n 1, 1) := by decide +kernel
theorem d_Mo_takeBounds_65 : decode b_Mo_takeBounds 65 = .ok (.imul, 1) := by decide +kernel
theorem d_Mo_takeBounds_66 : decode b_Mo_takeBounds 66 = .ok (.iload_n 2, 1) := by decide +kernel
theorem d_Mo_takeBounds_67 : decode b_Mo_takeBounds 67 = .ok (.iadd, 1) := by decide +kernel
theorem d_Mo_takeBounds_68 : decode b_Mo_takeBounds 68 = .ok (.iaload, 1) := by decide +kernel
theorem d_Mo_takeBounds_69 : decode b_Mo_takeBounds 69 = .ok (.iastore, 1) := by decide +kernel
theorem d_Mo_takeBounds_70 : decode b_Mo_takeBounds 70 = .ok (.iinc 2 1, 3) := by decide +kernel
theorem d_Mo_takeBounds_73 : decode b_Mo_takeBounds 73 = .ok (.goto (-71), 3) := by decide +kernel
theorem d_Mo_takeBounds_76 : decode b_Mo_takeBounds 76 = .ok (.return_, 1) := by decide +kernel
theorem d_Mo_cut_0 : decode b_Mo_cut 0 = .ok (.iload_n 2, 1) := by decide +kernel
theorem d_Mo_cut_1 : decode b_Mo_cut 1 = .ok (.ifCond .ne 32, 3) := by decide +kernel
theorem d_Mo_cut_4 : decode b_Mo_cut 4 = .ok (.aload_n 0, 1) := by decide +kernel
theorem d_Mo_cut_5 : decode b_Mo_cut 5 = .ok (.getfield 82, 3) := by decide +kernel
theorem d_Mo_cut_8 : decode b_Mo_cut 8 = .ok (.iload_n 1, 1) := by decide +kernel
theorem d_Mo_cut_9 : decode b_Mo_cut 9 = .ok (.iload_n 3, 1) := by decide +kernel
theorem d_Mo_cut_10 : decode b_Mo_cut 10 = .ok (.aload_n 0, 1) := by decide +kernel
theorem d_Mo_cut_11 : decode b_Mo_cut 11 = .ok (.getfield 82, 3) := by decide +kernel
theorem d_Mo_cut_14 : decode b_Mo_cut 14 = .ok (.iload_n 1, 1) := by decide +kernel
theorem d_Mo_cut_15 : decode b_Mo_cut 15 = .ok (.iaload, 1) := by decide +kernel
theorem d_Mo_cut_16 : decode b_Mo_cut 16 = .ok (.if_icmp .ge 7, 3) := by decide +kernel
theorem d_Mo_cut_19 : decode b_Mo_cut 19 = .ok (.iload_n 3, 1) := by decide +kernel
theorem d_Mo_cut_20 : decode b_Mo_cut 20 = .ok (.goto 9, 3) := by decide +kernel
theorem d_Mo_cut_23 : decode b_Mo_cut 23 = .ok (.aload_n 0, 1) := by decide +kernel
theorem d_Mo_cut_24 : decode b_Mo_cut 24 = .ok (.getfield 82, 3) := by decide +kernel
theorem d_Mo_cut_27 : decode b_Mo_cut 27 = .ok (.iload_n 1, 1) := by decide +kernel
theorem d_Mo_cut_28 : decode b_Mo_cut 28 = .ok (.iaload, 1) := by decide +kernel
theorem d_Mo_cut_29 : decode b_Mo_cut 29 = .ok (.iastore, 1) := by decide +kernel
theorem d_Mo_cut_30 : decode b_Mo_cut 30 = .ok (.goto 29, 3) := by decide +kernel
theorem d_Mo_cut_33 : decode b_Mo_cut 33 = .ok (.aload_n 0, 1) := by decide +kernel
theorem d_Mo_cut_34 : decode b_Mo_cut 34 = .ok (.getfield 79, 3) := by decide +kernel
theorem d_Mo_cut_37 : decode b_Mo_cut 37 = .ok (.iload_n 1, 1) := by decide +kernel
theorem d_Mo_cut_38 : decode b_Mo_cut 38 = .ok (.iload_n 3, 1) := by decide +kernel
theorem d_Mo_cut_39 : decode b_Mo_cut 39 = .ok (.aload_n 0, 1) := by decide +kernel
theorem d_Mo_cut_40 : decode b_Mo_cut 40 = .ok (.getfield 79, 3) := by decide +kernel
theorem d_Mo_cut_43 : decode b_Mo_cut 43 = .ok (.iload_n 1, 1) := by decide +kernel
theorem d_Mo_cut_44 : decode b_Mo_cut 44 = .ok (.iaload, 1) := by decide +kernel
theorem d_Mo_cut_45 : decode b_Mo_cut 45 = .ok (.if_icmp .le 7, 3) := by decide +kernel
theorem d_Mo_cut_48 : decode b_Mo_cut 48 = .ok (.iload_n 3, 1) := by decide +kernel
theorem d_Mo_cut_49 : decode b_Mo_cut 49 = .ok (.goto 9, 3) := by decide +kernel
theorem d_Mo_cut_52 : decode b_Mo_cut 52 = .ok (.aload_n 0, 1) := by decide +kernel
theorem d_Mo_cut_53 : decode b_Mo_cut 53 = .ok (.getfield 79, 3) := by decide +kernel
theorem d_Mo_cut_56 : decode b_Mo_cut 56 = .ok (.iload_n 1, 1) := by decide +kernel
theorem d_Mo_cut_57 : decode b_Mo_cut 57 = .ok (.iaload, 1) := by decide +kernel
theorem d_Mo_cut_58 : decode b_Mo_cut 58 = .ok (.iastore, 1) := by decide +kernel
theorem d_Mo_cut_59 : decode b_Mo_cut 59 = .ok (.return_, 1) := by decide +kernel
theorem d_Mo_narrow_0 : decode b_Mo_narrow 0 = .ok (.aload_n 0, 1) := by decide +kernel
theorem d_Mo_narrow_1 : decode b_Mo_narrow 1 = .ok (.iconst 1, 1) := by decide +kernel
theorem d_Mo_narrow_2 : decode b_Mo_narrow 2 = .ok (.putfield 147, 3) := by decide +kernel
theorem d_Mo_narrow_5 : decode b_Mo_narrow 5 = .ok (.aload_n 0, 1) := by decide +kernel
theorem d_Mo_narrow_6 : decode b_Mo_narrow 6 = .ok (.getfield 147, 3) := by decide +kernel
theorem d_Mo_narrow_9 : decode b_Mo_narrow 9 = .ok (.ifCond .eq 104, 3) := by decide +kernel
theorem d_Mo_narrow_12 : decode b_Mo_narrow 12 = .ok (.aload_n 0, 1) := by decide +kernel
theorem d_Mo_narrow_13 : decode b_Mo_narrow 13 = .ok (.iconst 0, 1) := by decide +kernel
theorem d_Mo_narrow_14 : decode b_Mo_narrow 14 = .ok (.putfield 147, 3) := by decide +kernel
theorem d_Mo_narrow_17 : decode b_Mo_narrow 17 = .ok (.iconst 0, 1) := by decide +kernel
theorem d_Mo_narrow_18 : decode b_Mo_narrow 18 = .ok (.istore_n 1, 1) := by decide +kernel
theorem d_Mo_narrow_19 : decode b_Mo_narrow 19 = .ok (.iload_n 1, 1) := by decide +kernel
theorem d_Mo_narrow_20 : decode b_Mo_narrow 20 = .ok (.aload_n 0, 1) := by decide +kernel
theorem d_Mo_narrow_21 : decode b_Mo_narrow 21 = .ok (.getfield 115, 3) := by decide +kernel
theorem d_Mo_narrow_24 : decode b_Mo_narrow 24 = .ok (.if_icmp .ge 63, 3) := by decide +kernel
theorem d_Mo_narrow_27 : decode b_Mo_narrow 27 = .ok (.aload_n 0, 1) := by decide +kernel
theorem d_Mo_narrow_28 : decode b_Mo_narrow 28 = .ok (.getfield 36, 3) := by decide +kernel
theorem d_Mo_narrow_31 : decode b_Mo_narrow 31 = .ok (.iload_n 1, 1) := by decide +kernel
theorem d_Mo_narrow_32 : decode b_Mo_narrow 32 = .ok (.iaload, 1) := by decide +kernel
theorem d_Mo_narrow_33 : decode b_Mo_narrow 33 = .ok (.iconst 1, 1) := by decide +kernel
theorem d_Mo_narrow_34 : decode b_Mo_narrow 34 = .ok (.if_icmp .eq 20, 3) := by decide +kernel
theorem d_Mo_narrow_37 : decode b_Mo_narrow 37 = .ok (.aload_n 0, 1) := by decide +kernel
theorem d_Mo_narrow_38 : decode b_Mo_narrow 38 = .ok (.iload_n 1, 1) := by decide +kernel
theorem d_Mo_narrow_39 : decode b_Mo_narrow 39 = .ok (.iconst 0, 1) := by decide +kernel
theorem d_Mo_narrow_40 : decode b_Mo_narrow 40 = .ok (.aload_n 0, 1) := by decide +kernel
theorem d_Mo_narrow_41 : decode b_Mo_narrow 41 = .ok (.getfield 39, 3) := by decide +kernel
theorem d_Mo_narrow_44 : decode b_Mo_narrow 44 = .ok (.iload_n 1, 1) := by decide +kernel
theorem d_Mo_narrow_45 : decode b_Mo_narrow 45 = .ok (.iaload, 1) := by decide +kernel
theorem d_Mo_narrow_46 : decode b_Mo_narrow 46 = .ok (.invokevirtual 150, 3) := by decide +kernel
theorem d_Mo_narrow_49 : decode b_Mo_narrow 49 = .ok (.ifCond .ne 5, 3) := by decide +kernel
theorem d_Mo_narrow_52 : decode b_Mo_narrow 52 = .ok (.iload_n 1, 1) := by decide +kernel
theorem d_Mo_narrow_53 : decode b_Mo_narrow 53 = .ok (.ireturn, 1) := by decide +kernel
theorem d_Mo_narrow_54 : decode b_Mo_narrow 54 = .ok (.aload_n 0, 1) := by decide +kernel
theorem d_Mo_narrow_55 : decode b_Mo_narrow 55 = .ok (.getfield 36, 3) := by decide +kernel
theorem d_Mo_narrow_58 : decode b_Mo_narrow 58 = .ok (.iload_n 1, 1) := by decide +kernel
theorem d_Mo_narrow_59 : decode b_Mo_narrow 59 = .ok (.iaload, 1) := by decide +kernel
theorem d_Mo_narrow_60 : decode b_Mo_narrow 60 = .ok (.ifCond .eq 21, 3) := by decide +kernel
theorem d_Mo_narrow_63 : decode b_Mo_narrow 63 = .ok (.aload_n 0, 1) := by decide +kernel
theorem d_Mo_narrow_64 : decode b_Mo_narrow 64 = .ok (.iload_n 1, 1) := by decide +kernel
theorem d_Mo_narrow_65 : decode b_Mo_narrow 65 = .ok (.iconst 1, 1) := by decide +kernel
theorem d_Mo_narrow_66 : decode b_Mo_narrow 66 = .ok (.aload_n 0, 1) := by decide +kernel
theorem d_Mo_narrow_67 : decode b_Mo_narrow 67 = .ok (.getfield 39, 3) := by decide +kernel
theorem d_Mo_narrow_70 : decode b_Mo_narrow 70 = .ok (.iload_n 1, 1) := by decide +kernel
theorem d_Mo_narrow_71 : decode b_Mo_narrow 71 = .ok (.iaload, 1) := by decide +kernel
theorem d_Mo_narrow_72 : decode b_Mo_narrow 72 = .ok (.ineg, 1) := by decide +kernel
theorem d_Mo_narrow_73 : decode b_Mo_narrow 73 = .ok (.invokevirtual 150, 3) := by decide +kernel
theorem d_Mo_narrow_76 : decode b_Mo_narrow 76 = .ok (.ifCond .ne 5, 3) := by decide +kernel
theorem d_Mo_narrow_79 : decode b_Mo_narrow 79 = .ok (.iload_n 1, 1) := by decide +kernel
theorem d_Mo_narrow_80 : decode b_Mo_narrow 80 = .ok (.ireturn, 1) := by decide +kernel
theorem d_Mo_narrow_81 : decode b_Mo_narrow 81 = .ok (.iinc 1 1, 3) := by decide +kernel
theorem d_Mo_narrow_84 : decode b_Mo_narrow 84 = .ok (.goto (-65), 3) := by decide +kernel
theorem d_Mo_narrow_87 : decode b_Mo_narrow 87 = .ok (.aload_n 0, 1) := by decide +kernel
theorem d_Mo_narrow_88 : decode b_Mo_narrow 88 = .ok (.getfield 98, 3) := by decide +kernel
theorem d_Mo_narrow_91 : decode b_Mo_narrow 91 = .ok (.ifCond .eq (-86), 3) := by decide +kernel
theorem d_Mo_narrow_94 : decode b_Mo_narrow 94 = .ok (.aload_n 0, 1) := by decide +kernel
theorem d_Mo_narrow_95 : decode b_Mo_narrow 95 = .ok (.bipush 16, 2) := by decide +kernel
theorem d_Mo_narrow_97 : decode b_Mo_narrow 97 = .ok (.iconst 0, 1) := by decide +kernel
theorem d_Mo_narrow_98 : decode b_Mo_narrow 98 = .ok (.aload_n 0, 1) := by decide +kernel
theorem d_Mo_narrow_99 : decode b_Mo_narrow 99 = .ok (.getfield 136, 3) := by decide +kernel
theorem d_Mo_narrow_102 : decode b_Mo_narrow 102 = .ok (.iconst 1, 1) := by decide +kernel
theorem d_Mo_narrow_103 : decode b_Mo_narrow 103 = .ok (.isub, 1) := by decide +kernel
theorem d_Mo_narrow_104 : decode b_Mo_narrow 104 = .ok (.invokevirtual 150, 3) := by decide +kernel
theorem d_Mo_narrow_107 : decode b_Mo_narrow 107 = .ok (.ifCond .ne (-102), 3) := by decide +kernel
theorem d_Mo_narrow_110 : decode b_Mo_narrow 110 = .ok (.bipush 16, 2) := by decide +kernel
theorem d_Mo_narrow_112 : decode b_Mo_narrow 112 = .ok (.ireturn, 1) := by decide +kernel
theorem d_Mo_narrow_113 : decode b_Mo_narrow 113 = .ok (.bipush (-2), 2) := by decide +kernel
theorem d_Mo_narrow_115 : decode b_Mo_narrow 115 = .ok (.ireturn, 1) := by decide +kernel
theorem d_Mo_keeps_0 : decode b_Mo_keeps 0 = .ok (.iconst 0, 1) := by decide +kernel
theorem d_Mo_keeps_1 : decode b_Mo_keeps 1 = .ok (.istore 4, 2) := by decide +kernel
theorem d_Mo_keeps_3 : decode b_Mo_keeps 3 = .ok (.iconst 0, 1) := by decide +kernel
theorem d_Mo_keeps_4 : decode b_Mo_keeps 4 = .ok (.istore 5, 2) := by decide +kernel
theorem d_Mo_keeps_6 : decode b_Mo_keeps 6 = .ok (.iload 5, 2) := by decide +kernel
theorem d_Mo_keeps_8 : decode b_Mo_keeps 8 = .ok (.aload_n 0, 1) := by decide +kernel
theorem d_Mo_keeps_9 : decode b_Mo_keeps 9 = .ok (.getfield 85, 3) := by decide +kernel
theorem d_Mo_keeps_12 : decode b_Mo_keeps 12 = .ok (.if_icmp .ge 28, 3) := by decide +kernel
theorem d_Mo_keeps_15 : decode b_Mo_keeps 15 = .ok (.iload 4, 2) := by decide +kernel
theorem d_Mo_keeps_17 : decode b_Mo_keeps 17 = .ok (.aload_n 0, 1) := by decide +kernel
theorem d_Mo_keeps_18 : decode b_Mo_keeps 18 = .ok (.aload_n 0, 1) := by decide +kernel
theorem d_Mo_keeps_19 : decode b_Mo_keeps 19 = .ok (.iload_n 1, 1) := by decide +kernel
theorem d_Mo_keeps_20 : decode b_Mo_keeps 20 = .ok (.iload 5, 2) := by decide +kernel
theorem d_Mo_keeps_22 : decode b_Mo_keeps 22 = .ok (.iload_n 2, 1) := by decide +kernel
theorem d_Mo_keeps_23 : decode b_Mo_keeps 23 = .ok (.invokevirtual 139, 3) := by decide +kernel
theorem d_Mo_keeps_26 : decode b_Mo_keeps 26 = .ok (.iload 5, 2) := by decide +kernel
theorem d_Mo_keeps_28 : decode b_Mo_keeps 28 = .ok (.invokevirtual 143, 3) := by decide +kernel
theorem d_Mo_keeps_31 : decode b_Mo_keeps 31 = .ok (.iadd, 1) := by decide +kernel
theorem d_Mo_keeps_32 : decode b_Mo_keeps 32 = .ok (.istore 4, 2) := by decide +kernel
theorem d_Mo_keeps_34 : decode b_Mo_keeps 34 = .ok (.iinc 5 1, 3) := by decide +kernel
theorem d_Mo_keeps_37 : decode b_Mo_keeps 37 = .ok (.goto (-31), 3) := by decide +kernel
theorem d_Mo_keeps_40 : decode b_Mo_keeps 40 = .ok (.iload 4, 2) := by decide +kernel
theorem d_Mo_keeps_42 : decode b_Mo_keeps 42 = .ok (.iload_n 3, 1) := by decide +kernel
theorem d_Mo_keeps_43 : decode b_Mo_keeps 43 = .ok (.if_icmp .le 5, 3) := by decide +kernel
theorem d_Mo_keeps_46 : decode b_Mo_keeps 46 = .ok (.iconst 0, 1) := by decide +kernel
theorem d_Mo_keeps_47 : decode b_Mo_keeps 47 = .ok (.ireturn, 1) := by decide +kernel
theorem d_Mo_keeps_48 : decode b_Mo_keeps 48 = .ok (.iconst 0, 1) := by decide +kernel
theorem d_Mo_keeps_49 : decode b_Mo_keeps 49 = .ok (.istore 5, 2) := by decide +kernel
theorem d_Mo_keeps_51 : decode b_Mo_keeps 51 = .ok (.iload 5, 2) := by decide +kernel
theorem d_Mo_keeps_53 : decode b_Mo_keeps 53 = .ok (.aload_n 0, 1) := by decide +kernel
theorem d_Mo_keeps_54 : decode b_Mo_keeps 54 = .ok (.getfield 85, 3) := by decide +kernel
theorem d_Mo_keeps_57 : decode b_Mo_keeps 57 = .ok (.if_icmp .ge 171, 3) := by decide +kernel
theorem d_Mo_keeps_60 : decode b_Mo_keeps 60 = .ok (.aload_n 0, 1) := by decide +kernel
theorem d_Mo_keeps_61 : decode b_Mo_keeps 61 = .ok (.iload_n 1, 1) := by decide +kernel
theorem d_Mo_keeps_62 : decode b_Mo_keeps 62 = .ok (.iload 5, 2) := by decide +kernel
theorem d_Mo_keeps_64 : decode b_Mo_keeps 64 = .ok (.iload_n 2, 1) := by decide +kernel
theorem d_Mo_keeps_65 : decode b_Mo_keeps 65 = .ok (.invokevirtual 139, 3) := by decide +kernel
theorem d_Mo_keeps_68 : decode b_Mo_keeps 68 = .ok (.istore 6, 2) := by decide +kernel
theorem d_Mo_keeps_70 : decode b_Mo_keeps 70 = .ok (.iconst 0, 1) := by decide +kernel
theorem d_Mo_keeps_71 : decode b_Mo_keeps 71 = .ok (.istore 7, 2) := by decide +kernel
theorem d_Mo_keeps_73 : decode b_Mo_keeps 73 = .ok (.iconst 0, 1) := by decide +kernel
theorem d_Mo_keeps_74 : decode b_Mo_keeps 74 = .ok (.istore 8, 2) := by decide +kernel
theorem d_Mo_keeps_76 : decode b_Mo_keeps 76 = .ok (.iload 8, 2) := by decide +kernel
theorem d_Mo_keeps_78 : decode b_Mo_keeps 78 = .ok (.aload_n 0, 1) := by decide +kernel
theorem d_Mo_keeps_79 : decode b_Mo_keeps 79 = .ok (.getfield 85, 3) := by decide +kernel
theorem d_Mo_keeps_82 : decode b_Mo_keeps 82 = .ok (.if_icmp .ge 39, 3) := by decide +kernel
theorem d_Mo_keeps_85 : decode b_Mo_keeps 85 = .ok (.iload 7, 2) := by decide +kernel
theorem d_Mo_keeps_87 : decode b_Mo_keeps 87 = .ok (.iload 8, 2) := by decide +kernel
theorem d_Mo_keeps_89 : decode b_Mo_keeps 89 = .ok (.iload 5, 2) := by decide +kernel
theorem d_Mo_keeps_91 : decode b_Mo_keeps 91 = .ok (.if_icmp .ne 7, 3) := by decide +kernel
theorem d_Mo_keeps_94 : decode b_Mo_keeps 94 = .ok (.iconst 0, 1) := by decide +kernel
theorem d_Mo_keeps_95 : decode b_Mo_keeps 95 = .ok (.goto 17, 3) := by decide +kernel
theorem d_Mo_keeps_98 : decode b_Mo_keeps 98 = .ok (.aload_n 0, 1) := by decide +kernel
theorem d_Mo_keeps_99 : decode b_Mo_keeps 99 = .ok (.aload_n 0, 1) := by decide +kernel
theorem d_Mo_keeps_100 : decode b_Mo_keeps 100 = .ok (.iload_n 1, 1) := by decide +kernel
theorem d_Mo_keeps_101 : decode b_Mo_keeps 101 = .ok (.iload 8, 2) := by decide +kernel
theorem d_Mo_keeps_103 : decode b_Mo_keeps 103 = .ok (.iload_n 2, 1) := by decide +kernel
theorem d_Mo_keeps_104 : decode b_Mo_keeps 104 = .ok (.invokevirtual 139, 3) := by decide +kernel
theorem d_Mo_keeps_107 : decode b_Mo_keeps 107 = .ok (.iload 8, 2) := by decide +kernel
theorem d_Mo_keeps_109 : decode b_Mo_keeps 109 = .ok (.invokevirtual 143, 3) := by decide +kernel
theorem d_Mo_keeps_112 : decode b_Mo_keeps 112 = .ok (.iadd, 1) := by decide +kernel
theorem d_Mo_keeps_113 : decode b_Mo_keeps 113 = .ok (.istore 7, 2) := by decide +kernel
theorem d_Mo_keeps_115 : decode b_Mo_keeps 115 = .ok (.iinc 8 1, 3) := by decide +kernel
theorem d_Mo_keeps_118 : decode b_Mo_keeps 118 = .ok (.goto (-42), 3) := by decide +kernel
theorem d_Mo_keeps_121 : decode b_Mo_keeps 121 = .ok (.iload 6, 2) := by decide +kernel
theorem d_Mo_keeps_123 : decode b_Mo_keeps 123 = .ok (.ifCond .le 39, 3) := by decide +kernel
theorem d_Mo_keeps_126 : decode b_Mo_keeps 126 = .ok (.iload 6, 2) := by decide +kernel
theorem d_Mo_keeps_128 : decode b_Mo_keeps 128 = .ok (.aload_n 0, 1) := by decide +kernel
theorem d_Mo_keeps_129 : decode b_Mo_keeps 129 = .ok (.getfield 82, 3) := by decide +kernel
theorem d_Mo_keeps_132 : decode b_Mo_keeps 132 = .ok (.iload 5, 2) := by decide +kernel
theorem d_Mo_keeps_134 : decode b_Mo_keeps 134 = .ok (.iaload, 1) := by decide +kernel
theorem d_Mo_keeps_135 : decode b_Mo_keeps 135 = .ok (.imul, 1) := by decide +kernel
theorem d_Mo_keeps_136 : decode b_Mo_keeps 136 = .ok (.iload_n 3, 1) := by decide +kernel
theorem d_Mo_keeps_137 : decode b_Mo_keeps 137 = .ok (.iload 7, 2) := by decide +kernel
theorem d_Mo_keeps_139 : decode b_Mo_keeps 139 = .ok (.isub, 1) := by decide +kernel
theorem d_Mo_keeps_140 : decode b_Mo_keeps 140 = .ok (.if_icmp .le 22, 3) := by decide +kernel
theorem d_Mo_keeps_143 : decode b_Mo_keeps 143 = .ok (.aload_n 0, 1) := by decide +kernel
theorem d_Mo_keeps_144 : decode b_Mo_keeps 144 = .ok (.getfield 82, 3) := by decide +kernel
theorem d_Mo_keeps_147 : decode b_Mo_keeps 147 = .ok (.iload 5, 2) := by decide +kernel
theorem d_Mo_keeps_149 : decode b_Mo_keeps 149 = .ok (.dup2, 1) := by decide +kernel
theorem d_Mo_keeps_150 : decode b_Mo_keeps 150 = .ok (.iaload, 1) := by decide +kernel
theorem d_Mo_keeps_151 : decode b_Mo_keeps 151 = .ok (.iconst 1, 1) := by decide +kernel
theorem d_Mo_keeps_152 : decode b_Mo_keeps 152 = .ok (.isub, 1) := by decide +kernel
theorem d_Mo_keeps_153 : decode b_Mo_keeps 153 = .ok (.iastore, 1) := by decide +kernel
theorem d_Mo_keeps_154 : decode b_Mo_keeps 154 = .ok (.aload_n 0, 1) := by decide +kernel
theorem d_Mo_keeps_155 : decode b_Mo_keeps 155 = .ok (.iconst 1, 1) := by decide +kernel
theorem d_Mo_keeps_156 : decode b_Mo_keeps 156 = .ok (.putfield 147, 3) := by decide +kernel
theorem d_Mo_keeps_159 : decode b_Mo_keeps 159 = .ok (.goto (-38), 3) := by decide +kernel
theorem d_Mo_keeps_162 : decode b_Mo_keeps 162 = .ok (.iload 6, 2) := by decide +kernel
theorem d_Mo_keeps_164 : decode b_Mo_keeps 164 = .ok (.ifCond .ge 39, 3) := by decide +kernel
theorem d_Mo_keeps_167 : decode b_Mo_keeps 167 = .ok (.iload 6, 2) := by decide +kernel
theorem d_Mo_keeps_169 : decode b_Mo_keeps 169 = .ok (.aload_n 0, 1) := by decide +kernel
theorem d_Mo_keeps_170 : decode b_Mo_keeps 170 = .ok (.getfield 79, 3) := by decide +kernel
theorem d_Mo_keeps_173 : decode b_Mo_keeps 173 = .ok (.iload 5, 2) := by decide +kernel
theorem d_Mo_keeps_175 : decode b_Mo_keeps 175 = .ok (.iaload, 1) := by decide +kernel
theorem d_Mo_keeps_176 : decode b_Mo_keeps 176 = .ok (.imul, 1) := by decide +kernel
theorem d_Mo_keeps_177 : decode b_Mo_keeps 177 = .ok (.iload_n 3, 1) := by decide +kernel
theorem d_Mo_keeps_178 : decode b_Mo_keeps 178 = .ok (.iload 7, 2) := by decide +kernel
theorem d_Mo_keeps_180 : decode b_Mo_keeps 180 = .ok (.isub, 1) := by decide +kernel
theorem d_Mo_keeps_181 : decode b_Mo_keeps 181 = .ok (.if_icmp .le 22, 3) := by decide +kernel
theorem d_Mo_keeps_184 : decode b_Mo_keeps 184 = .ok (.aload_n 0, 1) := by decide +kernel
theorem d_Mo_keeps_185 : decode b_Mo_keeps 185 = .ok (.getfield 79, 3) := by decide +kernel
theorem d_Mo_keeps_188 : decode b_Mo_keeps 188 = .ok (.iload 5, 2) := by decide +kernel
theorem d_Mo_keeps_190 : decode b_Mo_keeps 190 = .ok (.dup2, 1) := by decide +kernel
theorem d_Mo_keeps_191 : decode b_Mo_keeps 191 = .ok (.iaload, 1) := by decide +kernel
theorem d_Mo_keeps_192 : decode b_Mo_keeps 192 = .ok (.iconst 1, 1) := by decide +kernel
theorem d_Mo_keeps_193 : decode b_Mo_keeps 193 = .ok (.iadd, 1) := by decide +kernel
theorem d_Mo_keeps_194 : decode b_Mo_keeps 194 = .ok (.iastore, 1) := by decide +kernel
theorem d_Mo_keeps_195 : decode b_Mo_keeps 195 = .ok (.aload_n 0, 1) := by decide +kernel
theorem d_Mo_keeps_196 : decode b_Mo_keeps 196 = .ok (.iconst 1, 1) := by decide +kernel
theorem d_Mo_keeps_197 : decode b_Mo_keeps 197 = .ok (.putfield 147, 3) := by decide +kernel
theorem d_Mo_keeps_200 : decode b_Mo_keeps 200 = .ok (.goto (-38), 3) := by decide +kernel
theorem d_Mo_keeps_203 : decode b_Mo_keeps 203 = .ok (.aload_n 0, 1) := by decide +kernel
theorem d_Mo_keeps_204 : decode b_Mo_keeps 204 = .ok (.getfield 79, 3) := by decide +kernel
theorem d_Mo_keeps_207 : decode b_Mo_keeps 207 = .ok (.iload 5, 2) := by decide +kernel
theorem d_Mo_keeps_209 : decode b_Mo_keeps 209 = .ok (.iaload, 1) := by decide +kernel
theorem d_Mo_keeps_210 : decode b_Mo_keeps 210 = .ok (.aload_n 0, 1) := by decide +kernel
theorem d_Mo_keeps_211 : decode b_Mo_keeps 211 = .ok (.getfield 82, 3) := by decide +kernel
theorem d_Mo_keeps_214 : decode b_Mo_keeps 214 = .ok (.iload 5, 2) := by decide +kernel
theorem d_Mo_keeps_216 : decode b_Mo_keeps 216 = .ok (.iaload, 1) := by decide +kernel
theorem d_Mo_keeps_217 : decode b_Mo_keeps 217 = .ok (.if_icmp .le 5, 3) := by decide +kernel
theorem d_Mo_keeps_220 : decode b_Mo_keeps 220 = .ok (.iconst 0, 1) := by decide +kernel
theorem d_Mo_keeps_221 : decode b_Mo_keeps 221 = .ok (.ireturn, 1) := by decide +kernel
theorem d_Mo_keeps_222 : decode b_Mo_keeps 222 = .ok (.iinc 5 1, 3) := by decide +kernel
theorem d_Mo_keeps_225 : decode b_Mo_keeps 225 = .ok (.goto (-174), 3) := by decide +kernel
theorem d_Mo_keeps_228 : decode b_Mo_keeps 228 = .ok (.iconst 1, 1) := by decide +kernel
theorem d_Mo_keeps_229 : decode b_Mo_keeps 229 = .ok (.ireturn, 1) := by decide +kernel
theorem d_Mo_factorOf_0 : decode b_Mo_factorOf 0 = .ok (.iload_n 1, 1) := by decide +kernel
theorem d_Mo_factorOf_1 : decode b_Mo_factorOf 1 = .ok (.bipush 16, 2) := by decide +kernel
theorem d_Mo_factorOf_3 : decode b_Mo_factorOf 3 = .ok (.if_icmp .ne 12, 3) := by decide +kernel
theorem d_Mo_factorOf_6 : decode b_Mo_factorOf 6 = .ok (.aload_n 0, 1) := by decide +kernel
theorem d_Mo_factorOf_7 : decode b_Mo_factorOf 7 = .ok (.getfield 27, 3) := by decide +kernel
theorem d_Mo_factorOf_10 : decode b_Mo_factorOf 10 = .ok (.iload_n 2, 1) := by decide +kernel
theorem d_Mo_factorOf_11 : decode b_Mo_factorOf 11 = .ok (.iaload, 1) := by decide +kernel
theorem d_Mo_factorOf_12 : decode b_Mo_factorOf 12 = .ok (.goto 14, 3) := by decide +kernel
theorem d_Mo_factorOf_15 : decode b_Mo_factorOf 15 = .ok (.aload_n 0, 1) := by decide +kernel
theorem d_Mo_factorOf_16 : decode b_Mo_factorOf 16 = .ok (.getfield 33, 3) := by decide +kernel
theorem d_Mo_factorOf_19 : decode b_Mo_factorOf 19 = .ok (.bipush 8, 2) := by decide +kernel
theorem d_Mo_factorOf_21 : decode b_Mo_factorOf 21 = .ok (.iload_n 1, 1) := by decide +kernel
theorem d_Mo_factorOf_22 : decode b_Mo_factorOf 22 = .ok (.imul, 1) := by decide +kernel
theorem d_Mo_factorOf_23 : decode b_Mo_factorOf 23 = .ok (.iload_n 2, 1) := by decide +kernel
theorem d_Mo_factorOf_24 : decode b_Mo_factorOf 24 = .ok (.iadd, 1) := by decide +kernel
theorem d_Mo_factorOf_25 : decode b_Mo_factorOf 25 = .ok (.iaload, 1) := by decide +kernel
theorem d_Mo_factorOf_26 : decode b_Mo_factorOf 26 = .ok (.istore 4, 2) := by decide +kernel
theorem d_Mo_factorOf_28 : decode b_Mo_factorOf 28 = .ok (.iload_n 3, 1) := by decide +kernel
theorem d_Mo_factorOf_29 : decode b_Mo_factorOf 29 = .ok (.ifCond .eq 9, 3) := by decide +kernel
theorem d_Mo_factorOf_32 : decode b_Mo_factorOf 32 = .ok (.iload 4, 2) := by decide +kernel
theorem d_Mo_factorOf_34 : decode b_Mo_factorOf 34 = .ok (.ineg, 1) := by decide +kernel
theorem d_Mo_factorOf_35 : decode b_Mo_factorOf 35 = .ok (.goto 5, 3) := by decide +kernel
theorem d_Mo_factorOf_38 : decode b_Mo_factorOf 38 = .ok (.iload 4, 2) := by decide +kernel
theorem d_Mo_factorOf_40 : decode b_Mo_factorOf 40 = .ok (.ireturn, 1) := by decide +kernel
theorem d_Mo_leastOf_0 : decode b_Mo_leastOf 0 = .ok (.iload_n 1, 1) := by decide +kernel
theorem d_Mo_leastOf_1 : decode b_Mo_leastOf 1 = .ok (.aload_n 0, 1) := by decide +kernel
theorem d_Mo_leastOf_2 : decode b_Mo_leastOf 2 = .ok (.getfield 79, 3) := by decide +kernel
theorem d_Mo_leastOf_5 : decode b_Mo_leastOf 5 = .ok (.iload_n 2, 1) := by decide +kernel
theorem d_Mo_leastOf_6 : decode b_Mo_leastOf 6 = .ok (.iaload, 1) := by decide +kernel
theorem d_Mo_leastOf_7 : decode b_Mo_leastOf 7 = .ok (.imul, 1) := by decide +kernel
theorem d_Mo_leastOf_8 : decode b_Mo_leastOf 8 = .ok (.istore_n 3, 1) := by decide +kernel
theorem d_Mo_leastOf_9 : decode b_Mo_leastOf 9 = .ok (.iload_n 1, 1) := by decide +kernel
theorem d_Mo_leastOf_10 : decode b_Mo_leastOf 10 = .ok (.aload_n 0, 1) := by decide +kernel
theorem d_Mo_leastOf_11 : decode b_Mo_leastOf 11 = .ok (.getfield 82, 3) := by decide +kernel
theorem d_Mo_leastOf_14 : decode b_Mo_leastOf 14 = .ok (.iload_n 2, 1) := by decide +kernel
theorem d_Mo_leastOf_15 : decode b_Mo_leastOf 15 = .ok (.iaload, 1) := by decide +kernel
theorem d_Mo_leastOf_16 : decode b_Mo_leastOf 16 = .ok (.imul, 1) := by decide +kernel
theorem d_Mo_leastOf_17 : decode b_Mo_leastOf 17 = .ok (.istore 4, 2) := by decide +kernel
theorem d_Mo_leastOf_19 : decode b_Mo_leastOf 19 = .ok (.iload_n 3, 1) := by decide +kernel
theorem d_Mo_leastOf_20 : decode b_Mo_leastOf 20 = .ok (.iload 4, 2) := by decide +kernel
theorem d_Mo_leastOf_22 : decode b_Mo_leastOf 22 = .ok (.if_icmp .ge 7, 3) := by decide +kernel
theorem d_Mo_leastOf_25 : decode b_Mo_leastOf 25 = .ok (.iload_n 3, 1) := by decide +kernel
theorem d_Mo_leastOf_26 : decode b_Mo_leastOf 26 = .ok (.goto 5, 3) := by decide +kernel
theorem d_Mo_leastOf_29 : decode b_Mo_leastOf 29 = .ok (.iload 4, 2) := by decide +kernel
theorem d_Mo_leastOf_31 : decode b_Mo_leastOf 31 = .ok (.ireturn, 1) := by decide +kernel
theorem d_Mo_pick_0 : decode b_Mo_pick 0 = .ok (.iconst (-1), 1) := by decide +kernel
theorem d_Mo_pick_1 : decode b_Mo_pick 1 = .ok (.istore_n 1, 1) := by decide +kernel
theorem d_Mo_pick_2 : decode b_Mo_pick 2 = .ok (.iconst 0, 1) := by decide +kernel
theorem d_Mo_pick_3 : decode b_Mo_pick 3 = .ok (.istore_n 2, 1) := by decide +kernel
theorem d_Mo_pick_4 : decode b_Mo_pick 4 = .ok (.iload_n 2, 1) := by decide +kernel
theorem d_Mo_pick_5 : decode b_Mo_pick 5 = .ok (.aload_n 0, 1) := by decide +kernel
theorem d_Mo_pick_6 : decode b_Mo_pick 6 = .ok (.getfield 92, 3) := by decide +kernel
theorem d_Mo_pick_9 : decode b_Mo_pick 9 = .ok (.if_icmp .ge 70, 3) := by decide +kernel
theorem d_Mo_pick_12 : decode b_Mo_pick 12 = .ok (.aload_n 0, 1) := by decide +kernel
theorem d_Mo_pick_13 : decode b_Mo_pick 13 = .ok (.getfield 64, 3) := by decide +kernel
theorem d_Mo_pick_16 : decode b_Mo_pick 16 = .ok (.iload_n 2, 1) := by decide +kernel
theorem d_Mo_pick_17 : decode b_Mo_pick 17 = .ok (.iaload, 1) := by decide +kernel
theorem d_Mo_pick_18 : decode b_Mo_pick 18 = .ok (.ifCond .ne 55, 3) := by decide +kernel
theorem d_Mo_pick_21 : decode b_Mo_pick 21 = .ok (.iload_n 1, 1) := by decide +kernel
theorem d_Mo_pick_22 : decode b_Mo_pick 22 = .ok (.ifCond .lt 35, 3) := by decide +kernel
theorem d_Mo_pick_25 : decode b_Mo_pick 25 = .ok (.aload_n 0, 1) := by decide +kernel
theorem d_Mo_pick_26 : decode b_Mo_pick 26 = .ok (.getfield 46, 3) := by decide +kernel
theorem d_Mo_pick_29 : decode b_Mo_pick 29 = .ok (.iconst 0, 1) := by decide +kernel
theorem d_Mo_pick_30 : decode b_Mo_pick 30 = .ok (.iaload, 1) := by decide +kernel
theorem d_Mo_pick_31 : decode b_Mo_pick 31 = .ok (.ifCond .eq 26, 3) := by decide +kernel
theorem d_Mo_pick_34 : decode b_Mo_pick 34 = .ok (.aload_n 0, 1) := by decide +kernel
theorem d_Mo_pick_35 : decode b_Mo_pick 35 = .ok (.getfield 46, 3) := by decide +kernel
theorem d_Mo_pick_38 : decode b_Mo_pick 38 = .ok (.iconst 0, 1) := by decide +kernel
theorem d_Mo_pick_39 : decode b_Mo_pick 39 = .ok (.iaload, 1) := by decide +kernel
theorem d_Mo_pick_40 : decode b_Mo_pick 40 = .ok (.iconst 1, 1) := by decide +kernel
theorem d_Mo_pick_41 : decode b_Mo_pick 41 = .ok (.if_icmp .ne 20, 3) := by decide +kernel
theorem d_Mo_pick_44 : decode b_Mo_pick 44 = .ok (.aload_n 0, 1) := by decide +kernel
theorem d_Mo_pick_45 : decode b_Mo_pick 45 = .ok (.iload_n 2, 1) := by decide +kernel
theorem d_Mo_pick_46 : decode b_Mo_pick 46 = .ok (.invokevirtual 168, 3) := by decide +kernel
theorem d_Mo_pick_49 : decode b_Mo_pick 49 = .ok (.aload_n 0, 1) := by decide +kernel
theorem d_Mo_pick_50 : decode b_Mo_pick 50 = .ok (.iload_n 1, 1) := by decide +kernel
theorem d_Mo_pick_51 : decode b_Mo_pick 51 = .ok (.invokevirtual 168, 3) := by decide +kernel
theorem d_Mo_pick_54 : decode b_Mo_pick 54 = .ok (.if_icmp .ge 7, 3) := by decide +kernel
theorem d_Mo_pick_57 : decode b_Mo_pick 57 = .ok (.iconst 1, 1) := by decide +kernel
theorem d_Mo_pick_58 : decode b_Mo_pick 58 = .ok (.goto 4, 3) := by decide +kernel
theorem d_Mo_pick_61 : decode b_Mo_pick 61 = .ok (.iconst 0, 1) := by decide +kernel
theorem d_Mo_pick_62 : decode b_Mo_pick 62 = .ok (.istore_n 3, 1) := by decide +kernel
theorem d_Mo_pick_63 : decode b_Mo_pick 63 = .ok (.iload_n 3, 1) := by decide +kernel
theorem d_Mo_pick_64 : decode b_Mo_pick 64 = .ok (.ifCond .eq 7, 3) := by decide +kernel
theorem d_Mo_pick_67 : decode b_Mo_pick 67 = .ok (.iload_n 2, 1) := by decide +kernel
theorem d_Mo_pick_68 : decode b_Mo_pick 68 = .ok (.goto 4, 3) := by decide +kernel
theorem d_Mo_pick_71 : decode b_Mo_pick 71 = .ok (.iload_n 1, 1) := by decide +kernel
theorem d_Mo_pick_72 : decode b_Mo_pick 72 = .ok (.istore_n 1, 1) := by decide +kernel
theorem d_Mo_pick_73 : decode b_Mo_pick 73 = .ok (.iinc 2 1, 3) := by decide +kernel
theorem d_Mo_pick_76 : decode b_Mo_pick 76 = .ok (.goto (-72), 3) := by decide +kernel
theorem d_Mo_pick_79 : decode b_Mo_pick 79 = .ok (.iload_n 1, 1) := by decide +kernel
theorem d_Mo_pick_80 : decode b_Mo_pick 80 = .ok (.ireturn, 1) := by decide +kernel
theorem d_Mo_lower_0 : decode b_Mo_lower 0 = .ok (.aload_n 0, 1) := by decide +kernel
theorem d_Mo_lower_1 : decode b_Mo_lower 1 = .ok (.iload_n 1, 1) := by decide +kernel
theorem d_Mo_lower_2 : decode b_Mo_lower 2 = .ok (.invokevirtual 154, 3) := by decide +kernel
theorem d_Mo_lower_5 : decode b_Mo_lower 5 = .ok (.iconst 0, 1) := by decide +kernel
theorem d_Mo_lower_6 : decode b_Mo_lower 6 = .ok (.istore_n 2, 1) := by decide +kernel
theorem d_Mo_lower_7 : decode b_Mo_lower 7 = .ok (.iconst 0, 1) := by decide +kernel
theorem d_Mo_lower_8 : decode b_Mo_lower 8 = .ok (.istore_n 3, 1) := by decide +kernel
theorem d_Mo_lower_9 : decode b_Mo_lower 9 = .ok (.iload_n 3, 1) := by decide +kernel
theorem d_Mo_lower_10 : decode b_Mo_lower 10 = .ok (.aload_n 0, 1) := by decide +kernel
theorem d_Mo_lower_11 : decode b_Mo_lower 11 = .ok (.getfield 85, 3) := by decide +kernel
theorem d_Mo_lower_14 : decode b_Mo_lower 14 = .ok (.if_icmp .ge 23, 3) := by decide +kernel
theorem d_Mo_lower_17 : decode b_Mo_lower 17 = .ok (.iload_n 2, 1) := by decide +kernel
theorem d_Mo_lower_18 : decode b_Mo_lower 18 = .ok (.aload_n 0, 1) := by decide +kernel
theorem d_Mo_lower_19 : decode b_Mo_lower 19 = .ok (.aload_n 0, 1) := by decide +kernel
theorem d_Mo_lower_20 : decode b_Mo_lower 20 = .ok (.getfield 27, 3) := by decide +kernel
theorem d_Mo_lower_23 : decode b_Mo_lower 23 = .ok (.iload_n 3, 1) := by decide +kernel
theorem d_Mo_lower_24 : decode b_Mo_lower 24 = .ok (.iaload, 1) := by decide +kernel
theorem d_Mo_lower_25 : decode b_Mo_lower 25 = .ok (.iload_n 3, 1) := by decide +kernel
theorem d_Mo_lower_26 : decode b_Mo_lower 26 = .ok (.invokevirtual 143, 3) := by decide +kernel
theorem d_Mo_lower_29 : decode b_Mo_lower 29 = .ok (.iadd, 1) := by decide +kernel
theorem d_Mo_lower_30 : decode b_Mo_lower 30 = .ok (.istore_n 2, 1) := by decide +kernel
theorem d_Mo_lower_31 : decode b_Mo_lower 31 = .ok (.iinc 3 1, 3) := by decide +kernel
theorem d_Mo_lower_34 : decode b_Mo_lower 34 = .ok (.goto (-25), 3) := by decide +kernel
theorem d_Mo_lower_37 : decode b_Mo_lower 37 = .ok (.iload_n 2, 1) := by decide +kernel
theorem d_Mo_lower_38 : decode b_Mo_lower 38 = .ok (.ireturn, 1) := by decide +kernel
theorem d_Mo_work_0 : decode b_Mo_work 0 = .ok (.aload_n 0, 1) := by decide +kernel
theorem d_Mo_work_1 : decode b_Mo_work 1 = .ok (.iload_n 1, 1) := by decide +kernel
theorem d_Mo_work_2 : decode b_Mo_work 2 = .ok (.invokevirtual 168, 3) := by decide +kernel
theorem d_Mo_work_5 : decode b_Mo_work 5 = .ok (.istore_n 2, 1) := by decide +kernel
theorem d_Mo_work_6 : decode b_Mo_work 6 = .ok (.aload_n 0, 1) := by decide +kernel
theorem d_Mo_work_7 : decode b_Mo_work 7 = .ok (.getfield 98, 3) := by decide +kernel
theorem d_Mo_work_10 : decode b_Mo_work 10 = .ok (.ifCond .eq 20, 3) := by decide +kernel
theorem d_Mo_work_13 : decode b_Mo_work 13 = .ok (.iload_n 2, 1) := by decide +kernel
theorem d_Mo_work_14 : decode b_Mo_work 14 = .ok (.aload_n 0, 1) := by decide +kernel
theorem d_Mo_work_15 : decode b_Mo_work 15 = .ok (.getfield 136, 3) := by decide +kernel
theorem d_Mo_work_18 : decode b_Mo_work 18 = .ok (.if_icmp .lt 12, 3) := by decide +kernel
theorem d_Mo_work_21 : decode b_Mo_work 21 = .ok (.aload_n 0, 1) := by decide +kernel
theorem d_Mo_work_22 : decode b_Mo_work 22 = .ok (.getfield 64, 3) := by decide +kernel
theorem d_Mo_work_25 : decode b_Mo_work 25 = .ok (.iload_n 1, 1) := by decide +kernel
theorem d_Mo_work_26 : decode b_Mo_work 26 = .ok (.iconst 3, 1) := by decide +kernel
theorem d_Mo_work_27 : decode b_Mo_work 27 = .ok (.iastore, 1) := by decide +kernel
theorem d_Mo_work_28 : decode b_Mo_work 28 = .ok (.iconst 1, 1) := by decide +kernel
theorem d_Mo_work_29 : decode b_Mo_work 29 = .ok (.ireturn, 1) := by decide +kernel
theorem d_Mo_work_30 : decode b_Mo_work 30 = .ok (.aload_n 0, 1) := by decide +kernel
theorem d_Mo_work_31 : decode b_Mo_work 31 = .ok (.iload_n 1, 1) := by decide +kernel
theorem d_Mo_work_32 : decode b_Mo_work 32 = .ok (.invokevirtual 178, 3) := by decide +kernel
theorem d_Mo_work_35 : decode b_Mo_work 35 = .ok (.istore_n 3, 1) := by decide +kernel
theorem d_Mo_work_36 : decode b_Mo_work 36 = .ok (.iload_n 3, 1) := by decide +kernel
theorem d_Mo_work_37 : decode b_Mo_work 37 = .ok (.ifCond .ge 59, 3) := by decide +kernel
theorem d_Mo_work_40 : decode b_Mo_work 40 = .ok (.aload_n 0, 1) := by decide +kernel
theorem d_Mo_work_41 : decode b_Mo_work 41 = .ok (.getfield 64, 3) := by decide +kernel
theorem d_Mo_work_44 : decode b_Mo_work 44 = .ok (.iload_n 1, 1) := by decide +kernel
theorem d_Mo_work_45 : decode b_Mo_work 45 = .ok (.iconst 4, 1) := by decide +kernel
theorem d_Mo_work_46 : decode b_Mo_work 46 = .ok (.iastore, 1) := by decide +kernel
theorem d_Mo_work_47 : decode b_Mo_work 47 = .ok (.aload_n 0, 1) := by decide +kernel
theorem d_Mo_work_48 : decode b_Mo_work 48 = .ok (.iconst 1, 1) := by decide +kernel
theorem d_Mo_work_49 : decode b_Mo_work 49 = .ok (.putfield 98, 3) := by decide +kernel
theorem d_Mo_work_52 : decode b_Mo_work 52 = .ok (.aload_n 0, 1) := by decide +kernel
theorem d_Mo_work_53 : decode b_Mo_work 53 = .ok (.iload_n 2, 1) := by decide +kernel
theorem d_Mo_work_54 : decode b_Mo_work 54 = .ok (.putfield 136, 3) := by decide +kernel
theorem d_Mo_work_57 : decode b_Mo_work 57 = .ok (.iconst 0, 1) := by decide +kernel
theorem d_Mo_work_58 : decode b_Mo_work 58 = .ok (.istore 4, 2) := by decide +kernel
theorem d_Mo_work_60 : decode b_Mo_work 60 = .ok (.iload 4, 2) := by decide +kernel
theorem d_Mo_work_62 : decode b_Mo_work 62 = .ok (.aload_n 0, 1) := by decide +kernel
theorem d_Mo_work_63 : decode b_Mo_work 63 = .ok (.getfield 85, 3) := by decide +kernel
theorem d_Mo_work_66 : decode b_Mo_work 66 = .ok (.if_icmp .ge 28, 3) := by decide +kernel
theorem d_Mo_work_69 : decode b_Mo_work 69 = .ok (.aload_n 0, 1) := by decide +kernel
theorem d_Mo_work_70 : decode b_Mo_work 70 = .ok (.getfield 49, 3) := by decide +kernel
theorem d_Mo_work_73 : decode b_Mo_work 73 = .ok (.iload 4, 2) := by decide +kernel
theorem d_Mo_work_75 : decode b_Mo_work 75 = .ok (.aload_n 0, 1) := by decide +kernel
theorem d_Mo_work_76 : decode b_Mo_work 76 = .ok (.getfield 73, 3) := by decide +kernel
theorem d_Mo_work_79 : decode b_Mo_work 79 = .ok (.bipush 8, 2) := by decide +kernel
theorem d_Mo_work_81 : decode b_Mo_work 81 = .ok (.iload_n 1, 1) := by decide +kernel
theorem d_Mo_work_82 : decode b_Mo_work 82 = .ok (.imul, 1) := by decide +kernel
theorem d_Mo_work_83 : decode b_Mo_work 83 = .ok (.iload 4, 2) := by decide +kernel
theorem d_Mo_work_85 : decode b_Mo_work 85 = .ok (.iadd, 1) := by decide +kernel
theorem d_Mo_work_86 : decode b_Mo_work 86 = .ok (.iaload, 1) := by decide +kernel
theorem d_Mo_work_87 : decode b_Mo_work 87 = .ok (.iastore, 1) := by decide +kernel
theorem d_Mo_work_88 : decode b_Mo_work 88 = .ok (.iinc 4 1, 3) := by decide +kernel
theorem d_Mo_work_91 : decode b_Mo_work 91 = .ok (.goto (-31), 3) := by decide +kernel
theorem d_Mo_work_94 : decode b_Mo_work 94 = .ok (.iconst 1, 1) := by decide +kernel
theorem d_Mo_work_95 : decode b_Mo_work 95 = .ok (.ireturn, 1) := by decide +kernel
theorem d_Mo_work_96 : decode b_Mo_work 96 = .ok (.aload_n 0, 1) := by decide +kernel
theorem d_Mo_work_97 : decode b_Mo_work 97 = .ok (.getfield 92, 3) := by decide +kernel
theorem d_Mo_work_100 : decode b_Mo_work 100 = .ok (.iconst 2, 1) := by decide +kernel
theorem d_Mo_work_101 : decode b_Mo_work 101 = .ok (.iadd, 1) := by decide +kernel
theorem d_Mo_work_102 : decode b_Mo_work 102 = .ok (.sipush 600, 3) := by decide +kernel
theorem d_Mo_work_105 : decode b_Mo_work 105 = .ok (.if_icmp .le 5, 3) := by decide +kernel
theorem d_Mo_work_108 : decode b_Mo_work 108 = .ok (.iconst 0, 1) := by decide +kernel
theorem d_Mo_work_109 : decode b_Mo_work 109 = .ok (.ireturn, 1) := by decide +kernel
theorem d_Mo_work_110 : decode b_Mo_work 110 = .ok (.aload_n 0, 1) := by decide +kernel
theorem d_Mo_work_111 : decode b_Mo_work 111 = .ok (.getfield 73, 3) := by decide +kernel
theorem d_Mo_work_114 : decode b_Mo_work 114 = .ok (.bipush 8, 2) := by decide +kernel
theorem d_Mo_work_116 : decode b_Mo_work 116 = .ok (.iload_n 1, 1) := by decide +kernel
theorem d_Mo_work_117 : decode b_Mo_work 117 = .ok (.imul, 1) := by decide +kernel
theorem d_Mo_work_118 : decode b_Mo_work 118 = .ok (.iload_n 3, 1) := by decide +kernel
theorem d_Mo_work_119 : decode b_Mo_work 119 = .ok (.iadd, 1) := by decide +kernel
theorem d_Mo_work_120 : decode b_Mo_work 120 = .ok (.iaload, 1) := by decide +kernel
theorem d_Mo_work_121 : decode b_Mo_work 121 = .ok (.istore 4, 2) := by decide +kernel
theorem d_Mo_work_123 : decode b_Mo_work 123 = .ok (.iconst 2, 1) := by decide +kernel
theorem d_Mo_work_124 : decode b_Mo_work 124 = .ok (.iload 4, 2) := by decide +kernel
theorem d_Mo_work_126 : decode b_Mo_work 126 = .ok (.iconst 1, 1) := by decide +kernel
theorem d_Mo_work_127 : decode b_Mo_work 127 = .ok (.iadd, 1) := by decide +kernel
theorem d_Mo_work_128 : decode b_Mo_work 128 = .ok (.imul, 1) := by decide +kernel
theorem d_Mo_work_129 : decode b_Mo_work 129 = .ok (.aload_n 0, 1) := by decide +kernel
theorem d_Mo_work_130 : decode b_Mo_work 130 = .ok (.getfield 73, 3) := by decide +kernel
theorem d_Mo_work_133 : decode b_Mo_work 133 = .ok (.bipush 8, 2) := by decide +kernel
theorem d_Mo_work_135 : decode b_Mo_work 135 = .ok (.iload_n 1, 1) := by decide +kernel
theorem d_Mo_work_136 : decode b_Mo_work 136 = .ok (.imul, 1) := by decide +kernel
theorem d_Mo_work_137 : decode b_Mo_work 137 = .ok (.iload_n 3, 1) := by decide +kernel
theorem d_Mo_work_138 : decode b_Mo_work 138 = .ok (.iadd, 1) := by decide +kernel
theorem d_Mo_work_139 : decode b_Mo_work 139 = .ok (.iaload, 1) := by decide +kernel
theorem d_Mo_work_140 : decode b_Mo_work 140 = .ok (.aload_n 0, 1) := by decide +kernel
theorem d_Mo_work_141 : decode b_Mo_work 141 = .ok (.getfield 76, 3) := by decide +kernel
theorem d_Mo_work_144 : decode b_Mo_work 144 = .ok (.bipush 8, 2) := by decide +kernel
theorem d_Mo_work_146 : decode b_Mo_work 146 = .ok (.iload_n 1, 1) := by decide +kernel
theorem d_Mo_work_147 : decode b_Mo_work 147 = .ok (.imul, 1) := by decide +kernel
theorem d_Mo_work_148 : decode b_Mo_work 148 = .ok (.iload_n 3, 1) := by decide +kernel
theorem d_Mo_work_149 : decode b_Mo_work 149 = .ok (.iadd, 1) := by decide +kernel
theorem d_Mo_work_150 : decode b_Mo_work 150 = .ok (.iaload, 1) := by decide +kernel
theorem d_Mo_work_151 : decode b_Mo_work 151 = .ok (.iadd, 1) := by decide +kernel
theorem d_Mo_work_152 : decode b_Mo_work 152 = .ok (.if_icmp .gt 9, 3) := by decide +kernel
theorem d_Mo_work_155 : decode b_Mo_work 155 = .ok (.iinc 4 1, 3) := by decide +kernel
theorem d_Mo_work_158 : decode b_Mo_work 158 = .ok (.goto (-35), 3) := by decide +kernel
theorem d_Mo_work_161 : decode b_Mo_work 161 = .ok (.aload_n 0, 1) := by decide +kernel
theorem d_Mo_work_162 : decode b_Mo_work 162 = .ok (.getfield 64, 3) := by decide +kernel
theorem d_Mo_work_165 : decode b_Mo_work 165 = .ok (.iload_n 1, 1) := by decide +kernel
theorem d_Mo_work_166 : decode b_Mo_work 166 = .ok (.iconst 1, 1) := by decide +kernel
theorem d_Mo_work_167 : decode b_Mo_work 167 = .ok (.iastore, 1) := by decide +kernel
theorem d_Mo_work_168 : decode b_Mo_work 168 = .ok (.aload_n 0, 1) := by decide +kernel
theorem d_Mo_work_169 : decode b_Mo_work 169 = .ok (.getfield 70, 3) := by decide +kernel
theorem d_Mo_work_172 : decode b_Mo_work 172 = .ok (.iload_n 1, 1) := by decide +kernel
theorem d_Mo_work_173 : decode b_Mo_work 173 = .ok (.iload_n 3, 1) := by decide +kernel
theorem d_Mo_work_174 : decode b_Mo_work 174 = .ok (.iastore, 1) := by decide +kernel
theorem d_Mo_work_175 : decode b_Mo_work 175 = .ok (.iconst 0, 1) := by decide +kernel
theorem d_Mo_work_176 : decode b_Mo_work 176 = .ok (.istore 5, 2) := by decide +kernel
theorem d_Mo_work_178 : decode b_Mo_work 178 = .ok (.iload 5, 2) := by decide +kernel
theorem d_Mo_work_180 : decode b_Mo_work 180 = .ok (.iconst 2, 1) := by decide +kernel
theorem d_Mo_work_181 : decode b_Mo_work 181 = .ok (.if_icmp .ge 95, 3) := by decide +kernel
theorem d_Mo_work_184 : decode b_Mo_work 184 = .ok (.iload 5, 2) := by decide +kernel
theorem d_Mo_work_186 : decode b_Mo_work 186 = .ok (.ifCond .ne 12, 3) := by decide +kernel
theorem d_Mo_work_189 : decode b_Mo_work 189 = .ok (.aload_n 0, 1) := by decide +kernel
theorem d_Mo_work_190 : decode b_Mo_work 190 = .ok (.getfield 46, 3) := by decide +kernel
