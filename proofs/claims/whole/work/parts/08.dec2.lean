/-! Decode rows. -/
theorem d_R_handOut_172 : decode b_R_handOut 172 = .ok (.bastore, 1) := by decide +kernel
theorem d_R_handOut_173 : decode b_R_handOut 173 = .ok (.iinc 3 (-1), 3) := by decide +kernel
theorem d_R_handOut_176 : decode b_R_handOut 176 = .ok (.goto (-101), 3) := by decide +kernel
theorem d_R_handOut_179 : decode b_R_handOut 179 = .ok (.iconst 0, 1) := by decide +kernel
theorem d_R_handOut_180 : decode b_R_handOut 180 = .ok (.istore 4, 2) := by decide +kernel
theorem d_R_handOut_182 : decode b_R_handOut 182 = .ok (.iload 4, 2) := by decide +kernel
theorem d_R_handOut_184 : decode b_R_handOut 184 = .ok (.aload_n 0, 1) := by decide +kernel
theorem d_R_handOut_185 : decode b_R_handOut 185 = .ok (.getfield 177, 3) := by decide +kernel
theorem d_R_handOut_188 : decode b_R_handOut 188 = .ok (.if_icmp .ge 63, 3) := by decide +kernel
theorem d_R_handOut_191 : decode b_R_handOut 191 = .ok (.aload_n 0, 1) := by decide +kernel
theorem d_R_handOut_192 : decode b_R_handOut 192 = .ok (.getfield 69, 3) := by decide +kernel
theorem d_R_handOut_195 : decode b_R_handOut 195 = .ok (.iload 4, 2) := by decide +kernel
theorem d_R_handOut_197 : decode b_R_handOut 197 = .ok (.iaload, 1) := by decide +kernel
theorem d_R_handOut_198 : decode b_R_handOut 198 = .ok (.ifCond .ge 8, 3) := by decide +kernel
theorem d_R_handOut_201 : decode b_R_handOut 201 = .ok (.bipush 20, 2) := by decide +kernel
theorem d_R_handOut_203 : decode b_R_handOut 203 = .ok (.goto 10, 3) := by decide +kernel
theorem d_R_handOut_206 : decode b_R_handOut 206 = .ok (.aload_n 0, 1) := by decide +kernel
theorem d_R_handOut_207 : decode b_R_handOut 207 = .ok (.getfield 69, 3) := by decide +kernel
theorem d_R_handOut_210 : decode b_R_handOut 210 = .ok (.iload 4, 2) := by decide +kernel
theorem d_R_handOut_212 : decode b_R_handOut 212 = .ok (.iaload, 1) := by decide +kernel
theorem d_R_handOut_213 : decode b_R_handOut 213 = .ok (.istore 5, 2) := by decide +kernel
theorem d_R_handOut_215 : decode b_R_handOut 215 = .ok (.aload_n 0, 1) := by decide +kernel
theorem d_R_handOut_216 : decode b_R_handOut 216 = .ok (.getfield 53, 3) := by decide +kernel
theorem d_R_handOut_219 : decode b_R_handOut 219 = .ok (.iconst 3, 1) := by decide +kernel
theorem d_R_handOut_220 : decode b_R_handOut 220 = .ok (.iload 5, 2) := by decide +kernel
theorem d_R_handOut_222 : decode b_R_handOut 222 = .ok (.imul, 1) := by decide +kernel
theorem d_R_handOut_223 : decode b_R_handOut 223 = .ok (.iload_n 2, 1) := by decide +kernel
theorem d_R_handOut_224 : decode b_R_handOut 224 = .ok (.iadd, 1) := by decide +kernel
theorem d_R_handOut_225 : decode b_R_handOut 225 = .ok (.aload_n 0, 1) := by decide +kernel
theorem d_R_handOut_226 : decode b_R_handOut 226 = .ok (.getfield 53, 3) := by decide +kernel
theorem d_R_handOut_229 : decode b_R_handOut 229 = .ok (.iconst 3, 1) := by decide +kernel
theorem d_R_handOut_230 : decode b_R_handOut 230 = .ok (.iload 5, 2) := by decide +kernel
theorem d_R_handOut_232 : decode b_R_handOut 232 = .ok (.imul, 1) := by decide +kernel
theorem d_R_handOut_233 : decode b_R_handOut 233 = .ok (.iload_n 2, 1) := by decide +kernel
theorem d_R_handOut_234 : decode b_R_handOut 234 = .ok (.iadd, 1) := by decide +kernel
theorem d_R_handOut_235 : decode b_R_handOut 235 = .ok (.iaload, 1) := by decide +kernel
theorem d_R_handOut_236 : decode b_R_handOut 236 = .ok (.aload_n 0, 1) := by decide +kernel
theorem d_R_handOut_237 : decode b_R_handOut 237 = .ok (.getfield 78, 3) := by decide +kernel
theorem d_R_handOut_240 : decode b_R_handOut 240 = .ok (.iload 4, 2) := by decide +kernel
theorem d_R_handOut_242 : decode b_R_handOut 242 = .ok (.iaload, 1) := by decide +kernel
theorem d_R_handOut_243 : decode b_R_handOut 243 = .ok (.iadd, 1) := by decide +kernel
theorem d_R_handOut_244 : decode b_R_handOut 244 = .ok (.iastore, 1) := by decide +kernel
theorem d_R_handOut_245 : decode b_R_handOut 245 = .ok (.iinc 4 1, 3) := by decide +kernel
theorem d_R_handOut_248 : decode b_R_handOut 248 = .ok (.goto (-66), 3) := by decide +kernel
theorem d_R_handOut_251 : decode b_R_handOut 251 = .ok (.return_, 1) := by decide +kernel
theorem d_R_share_0 : decode b_R_share 0 = .ok (.aload_n 0, 1) := by decide +kernel
theorem d_R_share_1 : decode b_R_share 1 = .ok (.iconst 0, 1) := by decide +kernel
theorem d_R_share_2 : decode b_R_share 2 = .ok (.putfield 177, 3) := by decide +kernel
theorem d_R_share_5 : decode b_R_share 5 = .ok (.iconst 0, 1) := by decide +kernel
theorem d_R_share_6 : decode b_R_share 6 = .ok (.istore 4, 2) := by decide +kernel
theorem d_R_share_8 : decode b_R_share 8 = .ok (.iconst 0, 1) := by decide +kernel
theorem d_R_share_9 : decode b_R_share 9 = .ok (.istore 5, 2) := by decide +kernel
theorem d_R_share_11 : decode b_R_share 11 = .ok (.lconst 0, 1) := by decide +kernel
theorem d_R_share_12 : decode b_R_share 12 = .ok (.lstore 6, 2) := by decide +kernel
theorem d_R_share_14 : decode b_R_share 14 = .ok (.iconst 0, 1) := by decide +kernel
theorem d_R_share_15 : decode b_R_share 15 = .ok (.istore 8, 2) := by decide +kernel
theorem d_R_share_17 : decode b_R_share 17 = .ok (.iload 8, 2) := by decide +kernel
theorem d_R_share_19 : decode b_R_share 19 = .ok (.aload_n 0, 1) := by decide +kernel
theorem d_R_share_20 : decode b_R_share 20 = .ok (.getfield 88, 3) := by decide +kernel
theorem d_R_share_23 : decode b_R_share 23 = .ok (.if_icmp .ge 45, 3) := by decide +kernel
theorem d_R_share_26 : decode b_R_share 26 = .ok (.iload 4, 2) := by decide +kernel
theorem d_R_share_28 : decode b_R_share 28 = .ok (.aload_n 0, 1) := by decide +kernel
theorem d_R_share_29 : decode b_R_share 29 = .ok (.getfield 7, 3) := by decide +kernel
theorem d_R_share_32 : decode b_R_share 32 = .ok (.iload 8, 2) := by decide +kernel
theorem d_R_share_34 : decode b_R_share 34 = .ok (.iaload, 1) := by decide +kernel
theorem d_R_share_35 : decode b_R_share 35 = .ok (.iadd, 1) := by decide +kernel
theorem d_R_share_36 : decode b_R_share 36 = .ok (.istore 4, 2) := by decide +kernel
theorem d_R_share_38 : decode b_R_share 38 = .ok (.iload 5, 2) := by decide +kernel
theorem d_R_share_40 : decode b_R_share 40 = .ok (.aload_n 0, 1) := by decide +kernel
theorem d_R_share_41 : decode b_R_share 41 = .ok (.getfield 13, 3) := by decide +kernel
theorem d_R_share_44 : decode b_R_share 44 = .ok (.iload 8, 2) := by decide +kernel
theorem d_R_share_46 : decode b_R_share 46 = .ok (.iaload, 1) := by decide +kernel
theorem d_R_share_47 : decode b_R_share 47 = .ok (.iadd, 1) := by decide +kernel
theorem d_R_share_48 : decode b_R_share 48 = .ok (.istore 5, 2) := by decide +kernel
theorem d_R_share_50 : decode b_R_share 50 = .ok (.lload 6, 2) := by decide +kernel
theorem d_R_share_52 : decode b_R_share 52 = .ok (.aload_n 0, 1) := by decide +kernel
theorem d_R_share_53 : decode b_R_share 53 = .ok (.getfield 65, 3) := by decide +kernel
theorem d_R_share_56 : decode b_R_share 56 = .ok (.iload 8, 2) := by decide +kernel
theorem d_R_share_58 : decode b_R_share 58 = .ok (.laload, 1) := by decide +kernel
theorem d_R_share_59 : decode b_R_share 59 = .ok (.ladd, 1) := by decide +kernel
theorem d_R_share_60 : decode b_R_share 60 = .ok (.lstore 6, 2) := by decide +kernel
theorem d_R_share_62 : decode b_R_share 62 = .ok (.iinc 8 1, 3) := by decide +kernel
theorem d_R_share_65 : decode b_R_share 65 = .ok (.goto (-48), 3) := by decide +kernel
theorem d_R_share_68 : decode b_R_share 68 = .ok (.iconst 0, 1) := by decide +kernel
theorem d_R_share_69 : decode b_R_share 69 = .ok (.istore 8, 2) := by decide +kernel
theorem d_R_share_71 : decode b_R_share 71 = .ok (.iload 8, 2) := by decide +kernel
theorem d_R_share_73 : decode b_R_share 73 = .ok (.aload_n 0, 1) := by decide +kernel
theorem d_R_share_74 : decode b_R_share 74 = .ok (.getfield 88, 3) := by decide +kernel
theorem d_R_share_77 : decode b_R_share 77 = .ok (.if_icmp .ge 111, 3) := by decide +kernel
theorem d_R_share_80 : decode b_R_share 80 = .ok (.iload_n 1, 1) := by decide +kernel
theorem d_R_share_81 : decode b_R_share 81 = .ok (.iconst 2, 1) := by decide +kernel
theorem d_R_share_82 : decode b_R_share 82 = .ok (.if_icmp .ne 28, 3) := by decide +kernel
theorem d_R_share_85 : decode b_R_share 85 = .ok (.iload 5, 2) := by decide +kernel
theorem d_R_share_87 : decode b_R_share 87 = .ok (.ifCond .le 23, 3) := by decide +kernel
theorem d_R_share_90 : decode b_R_share 90 = .ok (.aload_n 0, 1) := by decide +kernel
theorem d_R_share_91 : decode b_R_share 91 = .ok (.iload 8, 2) := by decide +kernel
theorem d_R_share_93 : decode b_R_share 93 = .ok (.iload_n 2, 1) := by decide +kernel
theorem d_R_share_94 : decode b_R_share 94 = .ok (.i2l, 1) := by decide +kernel
theorem d_R_share_95 : decode b_R_share 95 = .ok (.aload_n 0, 1) := by decide +kernel
theorem d_R_share_96 : decode b_R_share 96 = .ok (.getfield 13, 3) := by decide +kernel
theorem d_R_share_99 : decode b_R_share 99 = .ok (.iload 8, 2) := by decide +kernel
theorem d_R_share_101 : decode b_R_share 101 = .ok (.iaload, 1) := by decide +kernel
theorem d_R_share_102 : decode b_R_share 102 = .ok (.iload 5, 2) := by decide +kernel
theorem d_R_share_104 : decode b_R_share 104 = .ok (.invokevirtual 207, 3) := by decide +kernel
theorem d_R_share_107 : decode b_R_share 107 = .ok (.goto 75, 3) := by decide +kernel
theorem d_R_share_110 : decode b_R_share 110 = .ok (.iload_n 1, 1) := by decide +kernel
theorem d_R_share_111 : decode b_R_share 111 = .ok (.iconst 1, 1) := by decide +kernel
theorem d_R_share_112 : decode b_R_share 112 = .ok (.if_icmp .ne 53, 3) := by decide +kernel
theorem d_R_share_115 : decode b_R_share 115 = .ok (.iload_n 3, 1) := by decide +kernel
theorem d_R_share_116 : decode b_R_share 116 = .ok (.ifCond .ne 49, 3) := by decide +kernel
theorem d_R_share_119 : decode b_R_share 119 = .ok (.iconst 0, 1) := by decide +kernel
theorem d_R_share_120 : decode b_R_share 120 = .ok (.istore 9, 2) := by decide +kernel
theorem d_R_share_122 : decode b_R_share 122 = .ok (.iload 9, 2) := by decide +kernel
theorem d_R_share_124 : decode b_R_share 124 = .ok (.bipush 12, 2) := by decide +kernel
theorem d_R_share_126 : decode b_R_share 126 = .ok (.if_icmp .ge 36, 3) := by decide +kernel
theorem d_R_share_129 : decode b_R_share 129 = .ok (.aload_n 0, 1) := by decide +kernel
theorem d_R_share_130 : decode b_R_share 130 = .ok (.iload 8, 2) := by decide +kernel
theorem d_R_share_132 : decode b_R_share 132 = .ok (.iload 9, 2) := by decide +kernel
theorem d_R_share_134 : decode b_R_share 134 = .ok (.aload_n 0, 1) := by decide +kernel
theorem d_R_share_135 : decode b_R_share 135 = .ok (.iload 8, 2) := by decide +kernel
theorem d_R_share_137 : decode b_R_share 137 = .ok (.iload 9, 2) := by decide +kernel
theorem d_R_share_139 : decode b_R_share 139 = .ok (.invokevirtual 183, 3) := by decide +kernel
theorem d_R_share_142 : decode b_R_share 142 = .ok (.iload_n 2, 1) := by decide +kernel
theorem d_R_share_143 : decode b_R_share 143 = .ok (.i2l, 1) := by decide +kernel
theorem d_R_share_144 : decode b_R_share 144 = .ok (.lload 6, 2) := by decide +kernel
theorem d_R_share_146 : decode b_R_share 146 = .ok (.invokevirtual 211, 3) := by decide +kernel
theorem d_R_share_149 : decode b_R_share 149 = .ok (.aload_n 0, 1) := by decide +kernel
theorem d_R_share_150 : decode b_R_share 150 = .ok (.iload 8, 2) := by decide +kernel
theorem d_R_share_152 : decode b_R_share 152 = .ok (.iload 9, 2) := by decide +kernel
theorem d_R_share_154 : decode b_R_share 154 = .ok (.invokevirtual 183, 3) := by decide +kernel
theorem d_R_share_157 : decode b_R_share 157 = .ok (.istore 9, 2) := by decide +kernel
theorem d_R_share_159 : decode b_R_share 159 = .ok (.goto (-37), 3) := by decide +kernel
theorem d_R_share_162 : decode b_R_share 162 = .ok (.goto 20, 3) := by decide +kernel
theorem d_R_share_165 : decode b_R_share 165 = .ok (.aload_n 0, 1) := by decide +kernel
theorem d_R_share_166 : decode b_R_share 166 = .ok (.iload 8, 2) := by decide +kernel
theorem d_R_share_168 : decode b_R_share 168 = .ok (.iload_n 2, 1) := by decide +kernel
theorem d_R_share_169 : decode b_R_share 169 = .ok (.i2l, 1) := by decide +kernel
theorem d_R_share_170 : decode b_R_share 170 = .ok (.aload_n 0, 1) := by decide +kernel
theorem d_R_share_171 : decode b_R_share 171 = .ok (.getfield 7, 3) := by decide +kernel
theorem d_R_share_174 : decode b_R_share 174 = .ok (.iload 8, 2) := by decide +kernel
theorem d_R_share_176 : decode b_R_share 176 = .ok (.iaload, 1) := by decide +kernel
theorem d_R_share_177 : decode b_R_share 177 = .ok (.iload 4, 2) := by decide +kernel
theorem d_R_share_179 : decode b_R_share 179 = .ok (.invokevirtual 207, 3) := by decide +kernel
theorem d_R_share_182 : decode b_R_share 182 = .ok (.iinc 8 1, 3) := by decide +kernel
theorem d_R_share_185 : decode b_R_share 185 = .ok (.goto (-114), 3) := by decide +kernel
theorem d_R_share_188 : decode b_R_share 188 = .ok (.aload_n 0, 1) := by decide +kernel
theorem d_R_share_189 : decode b_R_share 189 = .ok (.iload_n 2, 1) := by decide +kernel
theorem d_R_share_190 : decode b_R_share 190 = .ok (.iload_n 1, 1) := by decide +kernel
theorem d_R_share_191 : decode b_R_share 191 = .ok (.invokevirtual 215, 3) := by decide +kernel
theorem d_R_share_194 : decode b_R_share 194 = .ok (.return_, 1) := by decide +kernel
theorem d_R_isByArea_0 : decode b_R_isByArea 0 = .ok (.iconst 0, 1) := by decide +kernel
theorem d_R_isByArea_1 : decode b_R_isByArea 1 = .ok (.istore_n 1, 1) := by decide +kernel
theorem d_R_isByArea_2 : decode b_R_isByArea 2 = .ok (.iconst 0, 1) := by decide +kernel
theorem d_R_isByArea_3 : decode b_R_isByArea 3 = .ok (.istore_n 2, 1) := by decide +kernel
theorem d_R_isByArea_4 : decode b_R_isByArea 4 = .ok (.lconst 0, 1) := by decide +kernel
theorem d_R_isByArea_5 : decode b_R_isByArea 5 = .ok (.lstore_n 3, 1) := by decide +kernel
theorem d_R_isByArea_6 : decode b_R_isByArea 6 = .ok (.iconst 0, 1) := by decide +kernel
theorem d_R_isByArea_7 : decode b_R_isByArea 7 = .ok (.istore 5, 2) := by decide +kernel
theorem d_R_isByArea_9 : decode b_R_isByArea 9 = .ok (.iconst 0, 1) := by decide +kernel
theorem d_R_isByArea_10 : decode b_R_isByArea 10 = .ok (.istore 6, 2) := by decide +kernel
theorem d_R_isByArea_12 : decode b_R_isByArea 12 = .ok (.iload 6, 2) := by decide +kernel
theorem d_R_isByArea_14 : decode b_R_isByArea 14 = .ok (.aload_n 0, 1) := by decide +kernel
theorem d_R_isByArea_15 : decode b_R_isByArea 15 = .ok (.getfield 88, 3) := by decide +kernel
theorem d_R_isByArea_18 : decode b_R_isByArea 18 = .ok (.if_icmp .ge 74, 3) := by decide +kernel
theorem d_R_isByArea_21 : decode b_R_isByArea 21 = .ok (.iload_n 1, 1) := by decide +kernel
theorem d_R_isByArea_22 : decode b_R_isByArea 22 = .ok (.aload_n 0, 1) := by decide +kernel
theorem d_R_isByArea_23 : decode b_R_isByArea 23 = .ok (.getfield 7, 3) := by decide +kernel
theorem d_R_isByArea_26 : decode b_R_isByArea 26 = .ok (.iload 6, 2) := by decide +kernel
theorem d_R_isByArea_28 : decode b_R_isByArea 28 = .ok (.iaload, 1) := by decide +kernel
theorem d_R_isByArea_29 : decode b_R_isByArea 29 = .ok (.iadd, 1) := by decide +kernel
theorem d_R_isByArea_30 : decode b_R_isByArea 30 = .ok (.istore_n 1, 1) := by decide +kernel
theorem d_R_isByArea_31 : decode b_R_isByArea 31 = .ok (.aload_n 0, 1) := by decide +kernel
theorem d_R_isByArea_32 : decode b_R_isByArea 32 = .ok (.iload 6, 2) := by decide +kernel
theorem d_R_isByArea_34 : decode b_R_isByArea 34 = .ok (.invokevirtual 128, 3) := by decide +kernel
theorem d_R_isByArea_37 : decode b_R_isByArea 37 = .ok (.ifCond .eq 7, 3) := by decide +kernel
theorem d_R_isByArea_40 : decode b_R_isByArea 40 = .ok (.iload_n 2, 1) := by decide +kernel
theorem d_R_isByArea_41 : decode b_R_isByArea 41 = .ok (.goto 12, 3) := by decide +kernel
theorem d_R_isByArea_44 : decode b_R_isByArea 44 = .ok (.iload_n 2, 1) := by decide +kernel
theorem d_R_isByArea_45 : decode b_R_isByArea 45 = .ok (.aload_n 0, 1) := by decide +kernel
theorem d_R_isByArea_46 : decode b_R_isByArea 46 = .ok (.getfield 7, 3) := by decide +kernel
theorem d_R_isByArea_49 : decode b_R_isByArea 49 = .ok (.iload 6, 2) := by decide +kernel
theorem d_R_isByArea_51 : decode b_R_isByArea 51 = .ok (.iaload, 1) := by decide +kernel
theorem d_R_isByArea_52 : decode b_R_isByArea 52 = .ok (.iadd, 1) := by decide +kernel
theorem d_R_isByArea_53 : decode b_R_isByArea 53 = .ok (.istore_n 2, 1) := by decide +kernel
theorem d_R_isByArea_54 : decode b_R_isByArea 54 = .ok (.lload_n 3, 1) := by decide +kernel
theorem d_R_isByArea_55 : decode b_R_isByArea 55 = .ok (.aload_n 0, 1) := by decide +kernel
theorem d_R_isByArea_56 : decode b_R_isByArea 56 = .ok (.getfield 65, 3) := by decide +kernel
theorem d_R_isByArea_59 : decode b_R_isByArea 59 = .ok (.iload 6, 2) := by decide +kernel
theorem d_R_isByArea_61 : decode b_R_isByArea 61 = .ok (.laload, 1) := by decide +kernel
theorem d_R_isByArea_62 : decode b_R_isByArea 62 = .ok (.ladd, 1) := by decide +kernel
theorem d_R_isByArea_63 : decode b_R_isByArea 63 = .ok (.lstore_n 3, 1) := by decide +kernel
theorem d_R_isByArea_64 : decode b_R_isByArea 64 = .ok (.iload 5, 2) := by decide +kernel
theorem d_R_isByArea_66 : decode b_R_isByArea 66 = .ok (.ifCond .ne 13, 3) := by decide +kernel
theorem d_R_isByArea_69 : decode b_R_isByArea 69 = .ok (.aload_n 0, 1) := by decide +kernel
theorem d_R_isByArea_70 : decode b_R_isByArea 70 = .ok (.iload 6, 2) := by decide +kernel
theorem d_R_isByArea_72 : decode b_R_isByArea 72 = .ok (.invokevirtual 154, 3) := by decide +kernel
theorem d_R_isByArea_75 : decode b_R_isByArea 75 = .ok (.iconst 3, 1) := by decide +kernel
theorem d_R_isByArea_76 : decode b_R_isByArea 76 = .ok (.if_icmp .ne 7, 3) := by decide +kernel
theorem d_R_isByArea_79 : decode b_R_isByArea 79 = .ok (.iconst 1, 1) := by decide +kernel
theorem d_R_isByArea_80 : decode b_R_isByArea 80 = .ok (.goto 4, 3) := by decide +kernel
theorem d_R_isByArea_83 : decode b_R_isByArea 83 = .ok (.iconst 0, 1) := by decide +kernel
theorem d_R_isByArea_84 : decode b_R_isByArea 84 = .ok (.istore 5, 2) := by decide +kernel
theorem d_R_isByArea_86 : decode b_R_isByArea 86 = .ok (.iinc 6 1, 3) := by decide +kernel
theorem d_R_isByArea_89 : decode b_R_isByArea 89 = .ok (.goto (-77), 3) := by decide +kernel
theorem d_R_isByArea_92 : decode b_R_isByArea 92 = .ok (.iload 5, 2) := by decide +kernel
theorem d_R_isByArea_94 : decode b_R_isByArea 94 = .ok (.ifCond .ne 16, 3) := by decide +kernel
theorem d_R_isByArea_97 : decode b_R_isByArea 97 = .ok (.iconst 4, 1) := by decide +kernel
theorem d_R_isByArea_98 : decode b_R_isByArea 98 = .ok (.iload_n 2, 1) := by decide +kernel
theorem d_R_isByArea_99 : decode b_R_isByArea 99 = .ok (.imul, 1) := by decide +kernel
theorem d_R_isByArea_100 : decode b_R_isByArea 100 = .ok (.iload_n 1, 1) := by decide +kernel
theorem d_R_isByArea_101 : decode b_R_isByArea 101 = .ok (.if_icmp .gt 9, 3) := by decide +kernel
theorem d_R_isByArea_104 : decode b_R_isByArea 104 = .ok (.lload_n 3, 1) := by decide +kernel
theorem d_R_isByArea_105 : decode b_R_isByArea 105 = .ok (.lconst 0, 1) := by decide +kernel
theorem d_R_isByArea_106 : decode b_R_isByArea 106 = .ok (.lcmp, 1) := by decide +kernel
theorem d_R_isByArea_107 : decode b_R_isByArea 107 = .ok (.ifCond .ne 7, 3) := by decide +kernel
theorem d_R_isByArea_110 : decode b_R_isByArea 110 = .ok (.iconst 1, 1) := by decide +kernel
theorem d_R_isByArea_111 : decode b_R_isByArea 111 = .ok (.goto 4, 3) := by decide +kernel
theorem d_R_isByArea_114 : decode b_R_isByArea 114 = .ok (.iconst 0, 1) := by decide +kernel
theorem d_R_isByArea_115 : decode b_R_isByArea 115 = .ok (.ireturn, 1) := by decide +kernel
theorem d_R_needsDegrees_0 : decode b_R_needsDegrees 0 = .ok (.iconst 0, 1) := by decide +kernel
theorem d_R_needsDegrees_1 : decode b_R_needsDegrees 1 = .ok (.istore_n 1, 1) := by decide +kernel
theorem d_R_needsDegrees_2 : decode b_R_needsDegrees 2 = .ok (.iconst 0, 1) := by decide +kernel
theorem d_R_needsDegrees_3 : decode b_R_needsDegrees 3 = .ok (.istore_n 2, 1) := by decide +kernel
theorem d_R_needsDegrees_4 : decode b_R_needsDegrees 4 = .ok (.iload_n 2, 1) := by decide +kernel
theorem d_R_needsDegrees_5 : decode b_R_needsDegrees 5 = .ok (.aload_n 0, 1) := by decide +kernel
theorem d_R_needsDegrees_6 : decode b_R_needsDegrees 6 = .ok (.getfield 88, 3) := by decide +kernel
theorem d_R_needsDegrees_9 : decode b_R_needsDegrees 9 = .ok (.if_icmp .ge 57, 3) := by decide +kernel
theorem d_R_needsDegrees_12 : decode b_R_needsDegrees 12 = .ok (.iconst 1, 1) := by decide +kernel
theorem d_R_needsDegrees_13 : decode b_R_needsDegrees 13 = .ok (.istore_n 3, 1) := by decide +kernel
theorem d_R_needsDegrees_14 : decode b_R_needsDegrees 14 = .ok (.iload_n 3, 1) := by decide +kernel
theorem d_R_needsDegrees_15 : decode b_R_needsDegrees 15 = .ok (.bipush 12, 2) := by decide +kernel
theorem d_R_needsDegrees_17 : decode b_R_needsDegrees 17 = .ok (.if_icmp .ge 43, 3) := by decide +kernel
theorem d_R_needsDegrees_20 : decode b_R_needsDegrees 20 = .ok (.iload_n 1, 1) := by decide +kernel
theorem d_R_needsDegrees_21 : decode b_R_needsDegrees 21 = .ok (.ifCond .ne 27, 3) := by decide +kernel
theorem d_R_needsDegrees_24 : decode b_R_needsDegrees 24 = .ok (.aload_n 0, 1) := by decide +kernel
theorem d_R_needsDegrees_25 : decode b_R_needsDegrees 25 = .ok (.iload_n 2, 1) := by decide +kernel
theorem d_R_needsDegrees_26 : decode b_R_needsDegrees 26 = .ok (.iload_n 3, 1) := by decide +kernel
theorem d_R_needsDegrees_27 : decode b_R_needsDegrees 27 = .ok (.invokevirtual 174, 3) := by decide +kernel
theorem d_R_needsDegrees_30 : decode b_R_needsDegrees 30 = .ok (.bipush (-5), 2) := by decide +kernel
theorem d_R_needsDegrees_32 : decode b_R_needsDegrees 32 = .ok (.if_icmp .eq 20, 3) := by decide +kernel
theorem d_R_needsDegrees_35 : decode b_R_needsDegrees 35 = .ok (.aload_n 0, 1) := by decide +kernel
theorem d_R_needsDegrees_36 : decode b_R_needsDegrees 36 = .ok (.iload_n 2, 1) := by decide +kernel
theorem d_R_needsDegrees_37 : decode b_R_needsDegrees 37 = .ok (.iload_n 3, 1) := by decide +kernel
theorem d_R_needsDegrees_38 : decode b_R_needsDegrees 38 = .ok (.iconst 1, 1) := by decide +kernel
theorem d_R_needsDegrees_39 : decode b_R_needsDegrees 39 = .ok (.isub, 1) := by decide +kernel
theorem d_R_needsDegrees_40 : decode b_R_needsDegrees 40 = .ok (.iconst 1, 1) := by decide +kernel
theorem d_R_needsDegrees_41 : decode b_R_needsDegrees 41 = .ok (.invokevirtual 195, 3) := by decide +kernel
theorem d_R_needsDegrees_44 : decode b_R_needsDegrees 44 = .ok (.iload_n 3, 1) := by decide +kernel
theorem d_R_needsDegrees_45 : decode b_R_needsDegrees 45 = .ok (.if_icmp .le 7, 3) := by decide +kernel
theorem d_R_needsDegrees_48 : decode b_R_needsDegrees 48 = .ok (.iconst 1, 1) := by decide +kernel
theorem d_R_needsDegrees_49 : decode b_R_needsDegrees 49 = .ok (.goto 4, 3) := by decide +kernel
theorem d_R_needsDegrees_52 : decode b_R_needsDegrees 52 = .ok (.iconst 0, 1) := by decide +kernel
theorem d_R_needsDegrees_53 : decode b_R_needsDegrees 53 = .ok (.istore_n 1, 1) := by decide +kernel
theorem d_R_needsDegrees_54 : decode b_R_needsDegrees 54 = .ok (.iinc 3 1, 3) := by decide +kernel
theorem d_R_needsDegrees_57 : decode b_R_needsDegrees 57 = .ok (.goto (-43), 3) := by decide +kernel
theorem d_R_needsDegrees_60 : decode b_R_needsDegrees 60 = .ok (.iinc 2 1, 3) := by decide +kernel
theorem d_R_needsDegrees_63 : decode b_R_needsDegrees 63 = .ok (.goto (-59), 3) := by decide +kernel
theorem d_R_needsDegrees_66 : decode b_R_needsDegrees 66 = .ok (.iload_n 1, 1) := by decide +kernel
theorem d_R_needsDegrees_67 : decode b_R_needsDegrees 67 = .ok (.ireturn, 1) := by decide +kernel
theorem d_R_bill_0 : decode b_R_bill 0 = .ok (.aload_n 0, 1) := by decide +kernel
theorem d_R_bill_1 : decode b_R_bill 1 = .ok (.iconst 0, 1) := by decide +kernel
theorem d_R_bill_2 : decode b_R_bill 2 = .ok (.putfield 85, 3) := by decide +kernel
theorem d_R_bill_5 : decode b_R_bill 5 = .ok (.aload_n 0, 1) := by decide +kernel
theorem d_R_bill_6 : decode b_R_bill 6 = .ok (.iconst 0, 1) := by decide +kernel
theorem d_R_bill_7 : decode b_R_bill 7 = .ok (.putfield 98, 3) := by decide +kernel
theorem d_R_bill_10 : decode b_R_bill 10 = .ok (.aload_n 0, 1) := by decide +kernel
theorem d_R_bill_11 : decode b_R_bill 11 = .ok (.getfield 88, 3) := by decide +kernel
theorem d_R_bill_14 : decode b_R_bill 14 = .ok (.ifCond .eq 21, 3) := by decide +kernel
theorem d_R_bill_17 : decode b_R_bill 17 = .ok (.aload_n 0, 1) := by decide +kernel
theorem d_R_bill_18 : decode b_R_bill 18 = .ok (.getfield 37, 3) := by decide +kernel
theorem d_R_bill_21 : decode b_R_bill 21 = .ok (.ifCond .lt 14, 3) := by decide +kernel
theorem d_R_bill_24 : decode b_R_bill 24 = .ok (.aload_n 0, 1) := by decide +kernel
theorem d_R_bill_25 : decode b_R_bill 25 = .ok (.invokevirtual 113, 3) := by decide +kernel
theorem d_R_bill_28 : decode b_R_bill 28 = .ok (.aload_n 0, 1) := by decide +kernel
theorem d_R_bill_29 : decode b_R_bill 29 = .ok (.getfield 37, 3) := by decide +kernel
theorem d_R_bill_32 : decode b_R_bill 32 = .ok (.if_icmp .gt 5, 3) := by decide +kernel
theorem d_R_bill_35 : decode b_R_bill 35 = .ok (.iconst (-1), 1) := by decide +kernel
theorem d_R_bill_36 : decode b_R_bill 36 = .ok (.ireturn, 1) := by decide +kernel
theorem d_R_bill_37 : decode b_R_bill 37 = .ok (.aload_n 0, 1) := by decide +kernel
theorem d_R_bill_38 : decode b_R_bill 38 = .ok (.invokevirtual 159, 3) := by decide +kernel
theorem d_R_bill_41 : decode b_R_bill 41 = .ok (.aload_n 0, 1) := by decide +kernel
theorem d_R_bill_42 : decode b_R_bill 42 = .ok (.invokevirtual 219, 3) := by decide +kernel
theorem d_R_bill_45 : decode b_R_bill 45 = .ok (.istore_n 1, 1) := by decide +kernel
theorem d_R_bill_46 : decode b_R_bill 46 = .ok (.iload_n 1, 1) := by decide +kernel
theorem d_R_bill_47 : decode b_R_bill 47 = .ok (.ifCond .ne 24, 3) := by decide +kernel
theorem d_R_bill_50 : decode b_R_bill 50 = .ok (.aload_n 0, 1) := by decide +kernel
theorem d_R_bill_51 : decode b_R_bill 51 = .ok (.invokevirtual 223, 3) := by decide +kernel
theorem d_R_bill_54 : decode b_R_bill 54 = .ok (.ifCond .eq 17, 3) := by decide +kernel
theorem d_R_bill_57 : decode b_R_bill 57 = .ok (.aload_n 0, 1) := by decide +kernel
theorem d_R_bill_58 : decode b_R_bill 58 = .ok (.iconst 0, 1) := by decide +kernel
theorem d_R_bill_59 : decode b_R_bill 59 = .ok (.bipush 12, 2) := by decide +kernel
theorem d_R_bill_61 : decode b_R_bill 61 = .ok (.invokevirtual 192, 3) := by decide +kernel
theorem d_R_bill_64 : decode b_R_bill 64 = .ok (.bipush 100, 2) := by decide +kernel
theorem d_R_bill_66 : decode b_R_bill 66 = .ok (.if_icmp .eq 5, 3) := by decide +kernel
theorem d_R_bill_69 : decode b_R_bill 69 = .ok (.iconst (-1), 1) := by decide +kernel
theorem d_R_bill_70 : decode b_R_bill 70 = .ok (.ireturn, 1) := by decide +kernel
theorem d_R_bill_71 : decode b_R_bill 71 = .ok (.aload_n 0, 1) := by decide +kernel
theorem d_R_bill_72 : decode b_R_bill 72 = .ok (.invokevirtual 226, 3) := by decide +kernel
theorem d_R_bill_75 : decode b_R_bill 75 = .ok (.iconst 0, 1) := by decide +kernel
theorem d_R_bill_76 : decode b_R_bill 76 = .ok (.istore_n 2, 1) := by decide +kernel
theorem d_R_bill_77 : decode b_R_bill 77 = .ok (.iload_n 2, 1) := by decide +kernel
theorem d_R_bill_78 : decode b_R_bill 78 = .ok (.bipush 63, 2) := by decide +kernel
theorem d_R_bill_80 : decode b_R_bill 80 = .ok (.if_icmp .ge 16, 3) := by decide +kernel
theorem d_R_bill_83 : decode b_R_bill 83 = .ok (.aload_n 0, 1) := by decide +kernel
theorem d_R_bill_84 : decode b_R_bill 84 = .ok (.getfield 53, 3) := by decide +kernel
theorem d_R_bill_87 : decode b_R_bill 87 = .ok (.iload_n 2, 1) := by decide +kernel
theorem d_R_bill_88 : decode b_R_bill 88 = .ok (.iconst 0, 1) := by decide +kernel
theorem d_R_bill_89 : decode b_R_bill 89 = .ok (.iastore, 1) := by decide +kernel
theorem d_R_bill_90 : decode b_R_bill 90 = .ok (.iinc 2 1, 3) := by decide +kernel
theorem d_R_bill_93 : decode b_R_bill 93 = .ok (.goto (-16), 3) := by decide +kernel
theorem d_R_bill_96 : decode b_R_bill 96 = .ok (.aload_n 0, 1) := by decide +kernel
theorem d_R_bill_97 : decode b_R_bill 97 = .ok (.iconst 0, 1) := by decide +kernel
theorem d_R_bill_98 : decode b_R_bill 98 = .ok (.aload_n 0, 1) := by decide +kernel
theorem d_R_bill_99 : decode b_R_bill 99 = .ok (.getfield 50, 3) := by decide +kernel
theorem d_R_bill_102 : decode b_R_bill 102 = .ok (.iconst 3, 1) := by decide +kernel
theorem d_R_bill_103 : decode b_R_bill 103 = .ok (.iaload, 1) := by decide +kernel
theorem d_R_bill_104 : decode b_R_bill 104 = .ok (.iload_n 1, 1) := by decide +kernel
theorem d_R_bill_105 : decode b_R_bill 105 = .ok (.invokevirtual 229, 3) := by decide +kernel
theorem d_R_bill_108 : decode b_R_bill 108 = .ok (.aload_n 0, 1) := by decide +kernel
theorem d_R_bill_109 : decode b_R_bill 109 = .ok (.iconst 1, 1) := by decide +kernel
theorem d_R_bill_110 : decode b_R_bill 110 = .ok (.aload_n 0, 1) := by decide +kernel
theorem d_R_bill_111 : decode b_R_bill 111 = .ok (.getfield 50, 3) := by decide +kernel
theorem d_R_bill_114 : decode b_R_bill 114 = .ok (.iconst 4, 1) := by decide +kernel
theorem d_R_bill_115 : decode b_R_bill 115 = .ok (.iaload, 1) := by decide +kernel
theorem d_R_bill_116 : decode b_R_bill 116 = .ok (.iload_n 1, 1) := by decide +kernel
theorem d_R_bill_117 : decode b_R_bill 117 = .ok (.invokevirtual 229, 3) := by decide +kernel
theorem d_R_bill_120 : decode b_R_bill 120 = .ok (.aload_n 0, 1) := by decide +kernel
theorem d_R_bill_121 : decode b_R_bill 121 = .ok (.iconst 2, 1) := by decide +kernel
theorem d_R_bill_122 : decode b_R_bill 122 = .ok (.aload_n 0, 1) := by decide +kernel
theorem d_R_bill_123 : decode b_R_bill 123 = .ok (.getfield 50, 3) := by decide +kernel
theorem d_R_bill_126 : decode b_R_bill 126 = .ok (.iconst 2, 1) := by decide +kernel
theorem d_R_bill_127 : decode b_R_bill 127 = .ok (.iaload, 1) := by decide +kernel
theorem d_R_bill_128 : decode b_R_bill 128 = .ok (.iload_n 1, 1) := by decide +kernel
theorem d_R_bill_129 : decode b_R_bill 129 = .ok (.invokevirtual 229, 3) := by decide +kernel
theorem d_R_bill_132 : decode b_R_bill 132 = .ok (.aload_n 0, 1) := by decide +kernel
theorem d_R_bill_133 : decode b_R_bill 133 = .ok (.iconst 1, 1) := by decide +kernel
theorem d_R_bill_134 : decode b_R_bill 134 = .ok (.putfield 98, 3) := by decide +kernel
theorem d_R_bill_137 : decode b_R_bill 137 = .ok (.iload_n 1, 1) := by decide +kernel
theorem d_R_bill_138 : decode b_R_bill 138 = .ok (.ifCond .eq 7, 3) := by decide +kernel
theorem d_R_bill_141 : decode b_R_bill 141 = .ok (.iconst 2, 1) := by decide +kernel
theorem d_R_bill_142 : decode b_R_bill 142 = .ok (.goto 4, 3) := by decide +kernel
theorem d_R_bill_145 : decode b_R_bill 145 = .ok (.iconst 0, 1) := by decide +kernel
theorem d_R_bill_146 : decode b_R_bill 146 = .ok (.ireturn, 1) := by decide +kernel
theorem d_R_sumOf_0 : decode b_R_sumOf 0 = .ok (.aload_n 0, 1) := by decide +kernel
theorem d_R_sumOf_1 : decode b_R_sumOf 1 = .ok (.getfield 53, 3) := by decide +kernel
theorem d_R_sumOf_4 : decode b_R_sumOf 4 = .ok (.iconst 3, 1) := by decide +kernel
theorem d_R_sumOf_5 : decode b_R_sumOf 5 = .ok (.iload_n 1, 1) := by decide +kernel
theorem d_R_sumOf_6 : decode b_R_sumOf 6 = .ok (.imul, 1) := by decide +kernel
theorem d_R_sumOf_7 : decode b_R_sumOf 7 = .ok (.iaload, 1) := by decide +kernel
theorem d_R_sumOf_8 : decode b_R_sumOf 8 = .ok (.aload_n 0, 1) := by decide +kernel
theorem d_R_sumOf_9 : decode b_R_sumOf 9 = .ok (.getfield 53, 3) := by decide +kernel
theorem d_R_sumOf_12 : decode b_R_sumOf 12 = .ok (.iconst 3, 1) := by decide +kernel
theorem d_R_sumOf_13 : decode b_R_sumOf 13 = .ok (.iload_n 1, 1) := by decide +kernel
theorem d_R_sumOf_14 : decode b_R_sumOf 14 = .ok (.imul, 1) := by decide +kernel
theorem d_R_sumOf_15 : decode b_R_sumOf 15 = .ok (.iconst 1, 1) := by decide +kernel
theorem d_R_sumOf_16 : decode b_R_sumOf 16 = .ok (.iadd, 1) := by decide +kernel
theorem d_R_sumOf_17 : decode b_R_sumOf 17 = .ok (.iaload, 1) := by decide +kernel
theorem d_R_sumOf_18 : decode b_R_sumOf 18 = .ok (.iadd, 1) := by decide +kernel
theorem d_R_sumOf_19 : decode b_R_sumOf 19 = .ok (.aload_n 0, 1) := by decide +kernel
theorem d_R_sumOf_20 : decode b_R_sumOf 20 = .ok (.getfield 53, 3) := by decide +kernel
theorem d_R_sumOf_23 : decode b_R_sumOf 23 = .ok (.iconst 3, 1) := by decide +kernel
theorem d_R_sumOf_24 : decode b_R_sumOf 24 = .ok (.iload_n 1, 1) := by decide +kernel
theorem d_R_sumOf_25 : decode b_R_sumOf 25 = .ok (.imul, 1) := by decide +kernel
theorem d_R_sumOf_26 : decode b_R_sumOf 26 = .ok (.iconst 2, 1) := by decide +kernel
theorem d_R_sumOf_27 : decode b_R_sumOf 27 = .ok (.iadd, 1) := by decide +kernel
theorem d_R_sumOf_28 : decode b_R_sumOf 28 = .ok (.iaload, 1) := by decide +kernel
theorem d_R_sumOf_29 : decode b_R_sumOf 29 = .ok (.iadd, 1) := by decide +kernel
theorem d_R_sumOf_30 : decode b_R_sumOf 30 = .ok (.ireturn, 1) := by decide +kernel
theorem d_R_amount_0 : decode b_R_amount 0 = .ok (.aload_n 0, 1) := by decide +kernel
theorem d_R_amount_1 : decode b_R_amount 1 = .ok (.aload_n 0, 1) := by decide +kernel
theorem d_R_amount_2 : decode b_R_amount 2 = .ok (.getfield 98, 3) := by decide +kernel
theorem d_R_amount_5 : decode b_R_amount 5 = .ok (.ifCond .ne 7, 3) := by decide +kernel
theorem d_R_amount_8 : decode b_R_amount 8 = .ok (.iconst 1, 1) := by decide +kernel
theorem d_R_amount_9 : decode b_R_amount 9 = .ok (.goto 30, 3) := by decide +kernel
theorem d_R_amount_12 : decode b_R_amount 12 = .ok (.iload_n 1, 1) := by decide +kernel
theorem d_R_amount_13 : decode b_R_amount 13 = .ok (.iconst (-1), 1) := by decide +kernel
theorem d_R_amount_14 : decode b_R_amount 14 = .ok (.if_icmp .eq 11, 3) := by decide +kernel
theorem d_R_amount_17 : decode b_R_amount 17 = .ok (.aload_n 0, 1) := by decide +kernel
theorem d_R_amount_18 : decode b_R_amount 18 = .ok (.iload_n 1, 1) := by decide +kernel
theorem d_R_amount_19 : decode b_R_amount 19 = .ok (.invokevirtual 124, 3) := by decide +kernel
theorem d_R_amount_22 : decode b_R_amount 22 = .ok (.ifCond .eq 12, 3) := by decide +kernel
theorem d_R_amount_25 : decode b_R_amount 25 = .ok (.iload_n 2, 1) := by decide +kernel
theorem d_R_amount_26 : decode b_R_amount 26 = .ok (.iconst 0, 1) := by decide +kernel
theorem d_R_amount_27 : decode b_R_amount 27 = .ok (.iconst 3, 1) := by decide +kernel
theorem d_R_amount_28 : decode b_R_amount 28 = .ok (.invokestatic 94, 3) := by decide +kernel
theorem d_R_amount_31 : decode b_R_amount 31 = .ok (.ifCond .ne 7, 3) := by decide +kernel
theorem d_R_amount_34 : decode b_R_amount 34 = .ok (.iconst 2, 1) := by decide +kernel
theorem d_R_amount_35 : decode b_R_amount 35 = .ok (.goto 4, 3) := by decide +kernel
theorem d_R_amount_38 : decode b_R_amount 38 = .ok (.iconst 0, 1) := by decide +kernel
theorem d_R_amount_39 : decode b_R_amount 39 = .ok (.putfield 85, 3) := by decide +kernel
theorem d_R_amount_42 : decode b_R_amount 42 = .ok (.iload_n 1, 1) := by decide +kernel
theorem d_R_amount_43 : decode b_R_amount 43 = .ok (.iconst (-1), 1) := by decide +kernel
theorem d_R_amount_44 : decode b_R_amount 44 = .ok (.if_icmp .ne 8, 3) := by decide +kernel
theorem d_R_amount_47 : decode b_R_amount 47 = .ok (.bipush 20, 2) := by decide +kernel
theorem d_R_amount_49 : decode b_R_amount 49 = .ok (.goto 4, 3) := by decide +kernel
theorem d_R_amount_52 : decode b_R_amount 52 = .ok (.iload_n 1, 1) := by decide +kernel
theorem d_R_amount_53 : decode b_R_amount 53 = .ok (.istore_n 3, 1) := by decide +kernel
theorem d_R_amount_54 : decode b_R_amount 54 = .ok (.aload_n 0, 1) := by decide +kernel
theorem d_R_amount_55 : decode b_R_amount 55 = .ok (.getfield 85, 3) := by decide +kernel
theorem d_R_amount_58 : decode b_R_amount 58 = .ok (.ifCond .le 7, 3) := by decide +kernel
theorem d_R_amount_61 : decode b_R_amount 61 = .ok (.iconst 0, 1) := by decide +kernel
theorem d_R_amount_62 : decode b_R_amount 62 = .ok (.goto 26, 3) := by decide +kernel
theorem d_R_amount_65 : decode b_R_amount 65 = .ok (.iload_n 2, 1) := by decide +kernel
theorem d_R_amount_66 : decode b_R_amount 66 = .ok (.iconst 3, 1) := by decide +kernel
theorem d_R_amount_67 : decode b_R_amount 67 = .ok (.if_icmp .ne 11, 3) := by decide +kernel
theorem d_R_amount_70 : decode b_R_amount 70 = .ok (.aload_n 0, 1) := by decide +kernel
theorem d_R_amount_71 : decode b_R_amount 71 = .ok (.iload_n 3, 1) := by decide +kernel
theorem d_R_amount_72 : decode b_R_amount 72 = .ok (.invokevirtual 233, 3) := by decide +kernel
theorem d_R_amount_75 : decode b_R_amount 75 = .ok (.goto 13, 3) := by decide +kernel
theorem d_R_amount_78 : decode b_R_amount 78 = .ok (.aload_n 0, 1) := by decide +kernel
theorem d_R_amount_79 : decode b_R_amount 79 = .ok (.getfield 53, 3) := by decide +kernel
theorem d_R_amount_82 : decode b_R_amount 82 = .ok (.iconst 3, 1) := by decide +kernel
theorem d_R_amount_83 : decode b_R_amount 83 = .ok (.iload_n 3, 1) := by decide +kernel
theorem d_R_amount_84 : decode b_R_amount 84 = .ok (.imul, 1) := by decide +kernel
theorem d_R_amount_85 : decode b_R_amount 85 = .ok (.iload_n 2, 1) := by decide +kernel
theorem d_R_amount_86 : decode b_R_amount 86 = .ok (.iadd, 1) := by decide +kernel
theorem d_R_amount_87 : decode b_R_amount 87 = .ok (.iaload, 1) := by decide +kernel
theorem d_R_amount_88 : decode b_R_amount 88 = .ok (.ireturn, 1) := by decide +kernel
theorem d_R_part_0 : decode b_R_part 0 = .ok (.aload_n 0, 1) := by decide +kernel
theorem d_R_part_1 : decode b_R_part 1 = .ok (.aload_n 0, 1) := by decide +kernel
theorem d_R_part_2 : decode b_R_part 2 = .ok (.getfield 98, 3) := by decide +kernel
theorem d_R_part_5 : decode b_R_part 5 = .ok (.ifCond .ne 7, 3) := by decide +kernel
theorem d_R_part_8 : decode b_R_part 8 = .ok (.iconst 1, 1) := by decide +kernel
theorem d_R_part_9 : decode b_R_part 9 = .ok (.goto 17, 3) := by decide +kernel
theorem d_R_part_12 : decode b_R_part 12 = .ok (.iload_n 1, 1) := by decide +kernel
theorem d_R_part_13 : decode b_R_part 13 = .ok (.iconst 0, 1) := by decide +kernel
theorem d_R_part_14 : decode b_R_part 14 = .ok (.iconst 4, 1) := by decide +kernel
theorem d_R_part_15 : decode b_R_part 15 = .ok (.invokestatic 94, 3) := by decide +kernel
theorem d_R_part_18 : decode b_R_part 18 = .ok (.ifCond .ne 7, 3) := by decide +kernel
theorem d_R_part_21 : decode b_R_part 21 = .ok (.iconst 2, 1) := by decide +kernel
theorem d_R_part_22 : decode b_R_part 22 = .ok (.goto 4, 3) := by decide +kernel
theorem d_R_part_25 : decode b_R_part 25 = .ok (.iconst 0, 1) := by decide +kernel
theorem d_R_part_26 : decode b_R_part 26 = .ok (.putfield 85, 3) := by decide +kernel
theorem d_R_part_29 : decode b_R_part 29 = .ok (.aload_n 0, 1) := by decide +kernel
theorem d_R_part_30 : decode b_R_part 30 = .ok (.getfield 85, 3) := by decide +kernel
theorem d_R_part_33 : decode b_R_part 33 = .ok (.ifCond .le 7, 3) := by decide +kernel
theorem d_R_part_36 : decode b_R_part 36 = .ok (.iconst 0, 1) := by decide +kernel
theorem d_R_part_37 : decode b_R_part 37 = .ok (.goto 9, 3) := by decide +kernel
theorem d_R_part_40 : decode b_R_part 40 = .ok (.aload_n 0, 1) := by decide +kernel
theorem d_R_part_41 : decode b_R_part 41 = .ok (.getfield 50, 3) := by decide +kernel
theorem d_R_part_44 : decode b_R_part 44 = .ok (.iload_n 1, 1) := by decide +kernel
theorem d_R_part_45 : decode b_R_part 45 = .ok (.iaload, 1) := by decide +kernel
theorem d_R_part_46 : decode b_R_part 46 = .ok (.ireturn, 1) := by decide +kernel
theorem d_R_sendAll_0 : decode b_R_sendAll 0 = .ok (.iconst 0, 1) := by decide +kernel
theorem d_R_sendAll_1 : decode b_R_sendAll 1 = .ok (.istore_n 1, 1) := by decide +kernel
theorem d_R_sendAll_2 : decode b_R_sendAll 2 = .ok (.iconst 0, 1) := by decide +kernel
theorem d_R_sendAll_3 : decode b_R_sendAll 3 = .ok (.istore_n 2, 1) := by decide +kernel
theorem d_R_sendAll_4 : decode b_R_sendAll 4 = .ok (.iload_n 2, 1) := by decide +kernel
theorem d_R_sendAll_5 : decode b_R_sendAll 5 = .ok (.bipush 21, 2) := by decide +kernel
theorem d_R_sendAll_7 : decode b_R_sendAll 7 = .ok (.if_icmp .ge 55, 3) := by decide +kernel
theorem d_R_sendAll_10 : decode b_R_sendAll 10 = .ok (.aload_n 0, 1) := by decide +kernel
theorem d_R_sendAll_11 : decode b_R_sendAll 11 = .ok (.getfield 62, 3) := by decide +kernel
theorem d_R_sendAll_14 : decode b_R_sendAll 14 = .ok (.iload_n 2, 1) := by decide +kernel
theorem d_R_sendAll_15 : decode b_R_sendAll 15 = .ok (.aload_n 0, 1) := by decide +kernel
theorem d_R_sendAll_16 : decode b_R_sendAll 16 = .ok (.iload_n 2, 1) := by decide +kernel
theorem d_R_sendAll_17 : decode b_R_sendAll 17 = .ok (.invokevirtual 233, 3) := by decide +kernel
theorem d_R_sendAll_20 : decode b_R_sendAll 20 = .ok (.aload_n 0, 1) := by decide +kernel
theorem d_R_sendAll_21 : decode b_R_sendAll 21 = .ok (.getfield 59, 3) := by decide +kernel
theorem d_R_sendAll_24 : decode b_R_sendAll 24 = .ok (.iload_n 2, 1) := by decide +kernel
theorem d_R_sendAll_25 : decode b_R_sendAll 25 = .ok (.iaload, 1) := by decide +kernel
theorem d_R_sendAll_26 : decode b_R_sendAll 26 = .ok (.isub, 1) := by decide +kernel
theorem d_R_sendAll_27 : decode b_R_sendAll 27 = .ok (.iastore, 1) := by decide +kernel
theorem d_R_sendAll_28 : decode b_R_sendAll 28 = .ok (.aload_n 0, 1) := by decide +kernel
theorem d_R_sendAll_29 : decode b_R_sendAll 29 = .ok (.getfield 59, 3) := by decide +kernel
theorem d_R_sendAll_32 : decode b_R_sendAll 32 = .ok (.iload_n 2, 1) := by decide +kernel
theorem d_R_sendAll_33 : decode b_R_sendAll 33 = .ok (.aload_n 0, 1) := by decide +kernel
theorem d_R_sendAll_34 : decode b_R_sendAll 34 = .ok (.iload_n 2, 1) := by decide +kernel
theorem d_R_sendAll_35 : decode b_R_sendAll 35 = .ok (.invokevirtual 233, 3) := by decide +kernel
theorem d_R_sendAll_38 : decode b_R_sendAll 38 = .ok (.iastore, 1) := by decide +kernel
theorem d_R_sendAll_39 : decode b_R_sendAll 39 = .ok (.aload_n 0, 1) := by decide +kernel
theorem d_R_sendAll_40 : decode b_R_sendAll 40 = .ok (.getfield 62, 3) := by decide +kernel
theorem d_R_sendAll_43 : decode b_R_sendAll 43 = .ok (.iload_n 2, 1) := by decide +kernel
theorem d_R_sendAll_44 : decode b_R_sendAll 44 = .ok (.iaload, 1) := by decide +kernel
theorem d_R_sendAll_45 : decode b_R_sendAll 45 = .ok (.ifCond .eq 9, 3) := by decide +kernel
theorem d_R_sendAll_48 : decode b_R_sendAll 48 = .ok (.iload_n 1, 1) := by decide +kernel
theorem d_R_sendAll_49 : decode b_R_sendAll 49 = .ok (.iconst 1, 1) := by decide +kernel
theorem d_R_sendAll_50 : decode b_R_sendAll 50 = .ok (.iadd, 1) := by decide +kernel
theorem d_R_sendAll_51 : decode b_R_sendAll 51 = .ok (.goto 4, 3) := by decide +kernel
theorem d_R_sendAll_54 : decode b_R_sendAll 54 = .ok (.iload_n 1, 1) := by decide +kernel
theorem d_R_sendAll_55 : decode b_R_sendAll 55 = .ok (.istore_n 1, 1) := by decide +kernel
theorem d_R_sendAll_56 : decode b_R_sendAll 56 = .ok (.iinc 2 1, 3) := by decide +kernel
theorem d_R_sendAll_59 : decode b_R_sendAll 59 = .ok (.goto (-55), 3) := by decide +kernel
theorem d_R_sendAll_62 : decode b_R_sendAll 62 = .ok (.iload_n 1, 1) := by decide +kernel
theorem d_R_sendAll_63 : decode b_R_sendAll 63 = .ok (.ireturn, 1) := by decide +kernel
theorem d_R_send_0 : decode b_R_send 0 = .ok (.aload_n 0, 1) := by decide +kernel
theorem d_R_send_1 : decode b_R_send 1 = .ok (.aload_n 0, 1) := by decide +kernel
theorem d_R_send_2 : decode b_R_send 2 = .ok (.getfield 98, 3) := by decide +kernel
theorem d_R_send_5 : decode b_R_send 5 = .ok (.ifCond .eq 7, 3) := by decide +kernel
theorem d_R_send_8 : decode b_R_send 8 = .ok (.iconst 0, 1) := by decide +kernel
theorem d_R_send_9 : decode b_R_send 9 = .ok (.goto 4, 3) := by decide +kernel
theorem d_R_send_12 : decode b_R_send 12 = .ok (.iconst 1, 1) := by decide +kernel
theorem d_R_send_13 : decode b_R_send 13 = .ok (.putfield 85, 3) := by decide +kernel
theorem d_R_send_16 : decode b_R_send 16 = .ok (.aload_n 0, 1) := by decide +kernel
theorem d_R_send_17 : decode b_R_send 17 = .ok (.getfield 85, 3) := by decide +kernel
theorem d_R_send_20 : decode b_R_send 20 = .ok (.ifCond .le 7, 3) := by decide +kernel
theorem d_R_send_23 : decode b_R_send 23 = .ok (.iconst 0, 1) := by decide +kernel
theorem d_R_send_24 : decode b_R_send 24 = .ok (.goto 7, 3) := by decide +kernel
theorem d_R_send_27 : decode b_R_send 27 = .ok (.aload_n 0, 1) := by decide +kernel
theorem d_R_send_28 : decode b_R_send 28 = .ok (.invokevirtual 236, 3) := by decide +kernel
theorem d_R_send_31 : decode b_R_send 31 = .ok (.ireturn, 1) := by decide +kernel
theorem d_R_sent_0 : decode b_R_sent 0 = .ok (.aload_n 0, 1) := by decide +kernel
theorem d_R_sent_1 : decode b_R_sent 1 = .ok (.iload_n 1, 1) := by decide +kernel
theorem d_R_sent_2 : decode b_R_sent 2 = .ok (.iconst (-1), 1) := by decide +kernel
theorem d_R_sent_3 : decode b_R_sent 3 = .ok (.if_icmp .eq 11, 3) := by decide +kernel
theorem d_R_sent_6 : decode b_R_sent 6 = .ok (.aload_n 0, 1) := by decide +kernel
theorem d_R_sent_7 : decode b_R_sent 7 = .ok (.iload_n 1, 1) := by decide +kernel
theorem d_R_sent_8 : decode b_R_sent 8 = .ok (.invokevirtual 124, 3) := by decide +kernel
theorem d_R_sent_11 : decode b_R_sent 11 = .ok (.ifCond .eq 7, 3) := by decide +kernel
theorem d_R_sent_14 : decode b_R_sent 14 = .ok (.iconst 0, 1) := by decide +kernel
theorem d_R_sent_15 : decode b_R_sent 15 = .ok (.goto 4, 3) := by decide +kernel
theorem d_R_sent_18 : decode b_R_sent 18 = .ok (.iconst 1, 1) := by decide +kernel
theorem d_R_sent_19 : decode b_R_sent 19 = .ok (.putfield 85, 3) := by decide +kernel
theorem d_R_sent_22 : decode b_R_sent 22 = .ok (.aload_n 0, 1) := by decide +kernel
theorem d_R_sent_23 : decode b_R_sent 23 = .ok (.getfield 85, 3) := by decide +kernel
theorem d_R_sent_26 : decode b_R_sent 26 = .ok (.ifCond .le 7, 3) := by decide +kernel
theorem d_R_sent_29 : decode b_R_sent 29 = .ok (.iconst 0, 1) := by decide +kernel
theorem d_R_sent_30 : decode b_R_sent 30 = .ok (.goto 19, 3) := by decide +kernel
theorem d_R_sent_33 : decode b_R_sent 33 = .ok (.aload_n 0, 1) := by decide +kernel
theorem d_R_sent_34 : decode b_R_sent 34 = .ok (.getfield 62, 3) := by decide +kernel
theorem d_R_sent_37 : decode b_R_sent 37 = .ok (.iload_n 1, 1) := by decide +kernel
theorem d_R_sent_38 : decode b_R_sent 38 = .ok (.iconst (-1), 1) := by decide +kernel
theorem d_R_sent_39 : decode b_R_sent 39 = .ok (.if_icmp .ne 8, 3) := by decide +kernel
theorem d_R_sent_42 : decode b_R_sent 42 = .ok (.bipush 20, 2) := by decide +kernel
theorem d_R_sent_44 : decode b_R_sent 44 = .ok (.goto 4, 3) := by decide +kernel
theorem d_R_sent_47 : decode b_R_sent 47 = .ok (.iload_n 1, 1) := by decide +kernel
theorem d_R_sent_48 : decode b_R_sent 48 = .ok (.iaload, 1) := by decide +kernel
theorem d_R_sent_49 : decode b_R_sent 49 = .ok (.ireturn, 1) := by decide +kernel
theorem d_R_keepStock_0 : decode b_R_keepStock 0 = .ok (.iconst 0, 1) := by decide +kernel
theorem d_R_keepStock_1 : decode b_R_keepStock 1 = .ok (.istore_n 1, 1) := by decide +kernel
theorem d_R_keepStock_2 : decode b_R_keepStock 2 = .ok (.iconst 0, 1) := by decide +kernel
theorem d_R_keepStock_3 : decode b_R_keepStock 3 = .ok (.istore_n 2, 1) := by decide +kernel
theorem d_R_keepStock_4 : decode b_R_keepStock 4 = .ok (.iload_n 2, 1) := by decide +kernel
theorem d_R_keepStock_5 : decode b_R_keepStock 5 = .ok (.aload_n 0, 1) := by decide +kernel
theorem d_R_keepStock_6 : decode b_R_keepStock 6 = .ok (.getfield 110, 3) := by decide +kernel
theorem d_R_keepStock_9 : decode b_R_keepStock 9 = .ok (.if_icmp .ge 44, 3) := by decide +kernel
theorem d_R_keepStock_12 : decode b_R_keepStock 12 = .ok (.aload_n 0, 1) := by decide +kernel
theorem d_R_keepStock_13 : decode b_R_keepStock 13 = .ok (.iload_n 2, 1) := by decide +kernel
theorem d_R_keepStock_14 : decode b_R_keepStock 14 = .ok (.invokevirtual 162, 3) := by decide +kernel
theorem d_R_keepStock_17 : decode b_R_keepStock 17 = .ok (.istore_n 3, 1) := by decide +kernel
theorem d_R_keepStock_18 : decode b_R_keepStock 18 = .ok (.aload_n 0, 1) := by decide +kernel
theorem d_R_keepStock_19 : decode b_R_keepStock 19 = .ok (.iload_n 2, 1) := by decide +kernel
theorem d_R_keepStock_20 : decode b_R_keepStock 20 = .ok (.invokevirtual 165, 3) := by decide +kernel
theorem d_R_keepStock_23 : decode b_R_keepStock 23 = .ok (.istore 4, 2) := by decide +kernel
theorem d_R_keepStock_25 : decode b_R_keepStock 25 = .ok (.iload_n 3, 1) := by decide +kernel
theorem d_R_keepStock_26 : decode b_R_keepStock 26 = .ok (.ifCond .le 21, 3) := by decide +kernel
theorem d_R_keepStock_29 : decode b_R_keepStock 29 = .ok (.aload_n 0, 1) := by decide +kernel
theorem d_R_keepStock_30 : decode b_R_keepStock 30 = .ok (.getfield 78, 3) := by decide +kernel
theorem d_R_keepStock_33 : decode b_R_keepStock 33 = .ok (.iload_n 1, 1) := by decide +kernel
theorem d_R_keepStock_34 : decode b_R_keepStock 34 = .ok (.iload_n 3, 1) := by decide +kernel
theorem d_R_keepStock_35 : decode b_R_keepStock 35 = .ok (.iastore, 1) := by decide +kernel
theorem d_R_keepStock_36 : decode b_R_keepStock 36 = .ok (.aload_n 0, 1) := by decide +kernel
theorem d_R_keepStock_37 : decode b_R_keepStock 37 = .ok (.getfield 69, 3) := by decide +kernel
theorem d_R_keepStock_40 : decode b_R_keepStock 40 = .ok (.iload_n 1, 1) := by decide +kernel
theorem d_R_keepStock_41 : decode b_R_keepStock 41 = .ok (.iload 4, 2) := by decide +kernel
theorem d_R_keepStock_43 : decode b_R_keepStock 43 = .ok (.iastore, 1) := by decide +kernel
theorem d_R_keepStock_44 : decode b_R_keepStock 44 = .ok (.iinc 1 1, 3) := by decide +kernel
theorem d_R_keepStock_47 : decode b_R_keepStock 47 = .ok (.iinc 2 1, 3) := by decide +kernel
theorem d_R_keepStock_50 : decode b_R_keepStock 50 = .ok (.goto (-46), 3) := by decide +kernel
theorem d_R_keepStock_53 : decode b_R_keepStock 53 = .ok (.iconst 0, 1) := by decide +kernel
theorem d_R_keepStock_54 : decode b_R_keepStock 54 = .ok (.istore_n 2, 1) := by decide +kernel
theorem d_R_keepStock_55 : decode b_R_keepStock 55 = .ok (.iload_n 2, 1) := by decide +kernel
theorem d_R_keepStock_56 : decode b_R_keepStock 56 = .ok (.iload_n 1, 1) := by decide +kernel
theorem d_R_keepStock_57 : decode b_R_keepStock 57 = .ok (.if_icmp .ge 33, 3) := by decide +kernel
theorem d_R_keepStock_60 : decode b_R_keepStock 60 = .ok (.aload_n 0, 1) := by decide +kernel
theorem d_R_keepStock_61 : decode b_R_keepStock 61 = .ok (.getfield 31, 3) := by decide +kernel
theorem d_R_keepStock_64 : decode b_R_keepStock 64 = .ok (.iload_n 2, 1) := by decide +kernel
theorem d_R_keepStock_65 : decode b_R_keepStock 65 = .ok (.aload_n 0, 1) := by decide +kernel
theorem d_R_keepStock_66 : decode b_R_keepStock 66 = .ok (.getfield 78, 3) := by decide +kernel
theorem d_R_keepStock_69 : decode b_R_keepStock 69 = .ok (.iload_n 2, 1) := by decide +kernel
theorem d_R_keepStock_70 : decode b_R_keepStock 70 = .ok (.iaload, 1) := by decide +kernel
theorem d_R_keepStock_71 : decode b_R_keepStock 71 = .ok (.iastore, 1) := by decide +kernel
theorem d_R_keepStock_72 : decode b_R_keepStock 72 = .ok (.aload_n 0, 1) := by decide +kernel
theorem d_R_keepStock_73 : decode b_R_keepStock 73 = .ok (.getfield 34, 3) := by decide +kernel
theorem d_R_keepStock_76 : decode b_R_keepStock 76 = .ok (.iload_n 2, 1) := by decide +kernel
theorem d_R_keepStock_77 : decode b_R_keepStock 77 = .ok (.aload_n 0, 1) := by decide +kernel
theorem d_R_keepStock_78 : decode b_R_keepStock 78 = .ok (.getfield 69, 3) := by decide +kernel
theorem d_R_keepStock_81 : decode b_R_keepStock 81 = .ok (.iload_n 2, 1) := by decide +kernel
theorem d_R_keepStock_82 : decode b_R_keepStock 82 = .ok (.iaload, 1) := by decide +kernel
theorem d_R_keepStock_83 : decode b_R_keepStock 83 = .ok (.iastore, 1) := by decide +kernel
theorem d_R_keepStock_84 : decode b_R_keepStock 84 = .ok (.iinc 2 1, 3) := by decide +kernel
theorem d_R_keepStock_87 : decode b_R_keepStock 87 = .ok (.goto (-32), 3) := by decide +kernel
theorem d_R_keepStock_90 : decode b_R_keepStock 90 = .ok (.aload_n 0, 1) := by decide +kernel
theorem d_R_keepStock_91 : decode b_R_keepStock 91 = .ok (.iload_n 1, 1) := by decide +kernel
theorem d_R_keepStock_92 : decode b_R_keepStock 92 = .ok (.putfield 110, 3) := by decide +kernel
theorem d_R_keepStock_95 : decode b_R_keepStock 95 = .ok (.return_, 1) := by decide +kernel
theorem d_R_nextYear_0 : decode b_R_nextYear 0 = .ok (.aload_n 0, 1) := by decide +kernel
theorem d_R_nextYear_1 : decode b_R_nextYear 1 = .ok (.getfield 65, 3) := by decide +kernel
theorem d_R_nextYear_4 : decode b_R_nextYear 4 = .ok (.iload_n 1, 1) := by decide +kernel
theorem d_R_nextYear_5 : decode b_R_nextYear 5 = .ok (.laload, 1) := by decide +kernel
theorem d_R_nextYear_6 : decode b_R_nextYear 6 = .ok (.aload_n 0, 1) := by decide +kernel
theorem d_R_nextYear_7 : decode b_R_nextYear 7 = .ok (.getfield 150, 3) := by decide +kernel
theorem d_R_nextYear_10 : decode b_R_nextYear 10 = .ok (.ldiv, 1) := by decide +kernel
theorem d_R_nextYear_11 : decode b_R_nextYear 11 = .ok (.lstore_n 2, 1) := by decide +kernel
theorem d_R_nextYear_12 : decode b_R_nextYear 12 = .ok (.aload_n 0, 1) := by decide +kernel
theorem d_R_nextYear_13 : decode b_R_nextYear 13 = .ok (.getfield 28, 3) := by decide +kernel
theorem d_R_nextYear_16 : decode b_R_nextYear 16 = .ok (.iload_n 1, 1) := by decide +kernel
theorem d_R_nextYear_17 : decode b_R_nextYear 17 = .ok (.lload_n 2, 1) := by decide +kernel
theorem d_R_nextYear_18 : decode b_R_nextYear 18 = .ok (.lconst 0, 1) := by decide +kernel
theorem d_R_nextYear_19 : decode b_R_nextYear 19 = .ok (.lcmp, 1) := by decide +kernel
theorem d_R_nextYear_20 : decode b_R_nextYear 20 = .ok (.ifCond .le 8, 3) := by decide +kernel
theorem d_R_nextYear_23 : decode b_R_nextYear 23 = .ok (.lload_n 2, 1) := by decide +kernel
theorem d_R_nextYear_24 : decode b_R_nextYear 24 = .ok (.l2i, 1) := by decide +kernel
theorem d_R_nextYear_25 : decode b_R_nextYear 25 = .ok (.goto 4, 3) := by decide +kernel
theorem d_R_nextYear_28 : decode b_R_nextYear 28 = .ok (.iconst (-1), 1) := by decide +kernel
theorem d_R_nextYear_29 : decode b_R_nextYear 29 = .ok (.iastore, 1) := by decide +kernel
theorem d_R_nextYear_30 : decode b_R_nextYear 30 = .ok (.aload_n 0, 1) := by decide +kernel
theorem d_R_nextYear_31 : decode b_R_nextYear 31 = .ok (.getfield 25, 3) := by decide +kernel
theorem d_R_nextYear_34 : decode b_R_nextYear 34 = .ok (.iload_n 1, 1) := by decide +kernel
theorem d_R_nextYear_35 : decode b_R_nextYear 35 = .ok (.aload_n 0, 1) := by decide +kernel
theorem d_R_nextYear_36 : decode b_R_nextYear 36 = .ok (.iload_n 1, 1) := by decide +kernel
theorem d_R_nextYear_37 : decode b_R_nextYear 37 = .ok (.bipush 11, 2) := by decide +kernel
theorem d_R_nextYear_39 : decode b_R_nextYear 39 = .ok (.invokevirtual 180, 3) := by decide +kernel
theorem d_R_nextYear_42 : decode b_R_nextYear 42 = .ok (.iastore, 1) := by decide +kernel
theorem d_R_nextYear_43 : decode b_R_nextYear 43 = .ok (.aload_n 0, 1) := by decide +kernel
theorem d_R_nextYear_44 : decode b_R_nextYear 44 = .ok (.getfield 19, 3) := by decide +kernel
theorem d_R_nextYear_47 : decode b_R_nextYear 47 = .ok (.bipush 13, 2) := by decide +kernel
theorem d_R_nextYear_49 : decode b_R_nextYear 49 = .ok (.iload_n 1, 1) := by decide +kernel
theorem d_R_nextYear_50 : decode b_R_nextYear 50 = .ok (.imul, 1) := by decide +kernel
theorem d_R_nextYear_51 : decode b_R_nextYear 51 = .ok (.aload_n 0, 1) := by decide +kernel
theorem d_R_nextYear_52 : decode b_R_nextYear 52 = .ok (.getfield 19, 3) := by decide +kernel
theorem d_R_nextYear_55 : decode b_R_nextYear 55 = .ok (.bipush 13, 2) := by decide +kernel
theorem d_R_nextYear_57 : decode b_R_nextYear 57 = .ok (.iload_n 1, 1) := by decide +kernel
theorem d_R_nextYear_58 : decode b_R_nextYear 58 = .ok (.imul, 1) := by decide +kernel
theorem d_R_nextYear_59 : decode b_R_nextYear 59 = .ok (.bipush 12, 2) := by decide +kernel
theorem d_R_nextYear_61 : decode b_R_nextYear 61 = .ok (.iadd, 1) := by decide +kernel
theorem d_R_nextYear_62 : decode b_R_nextYear 62 = .ok (.iaload, 1) := by decide +kernel
theorem d_R_nextYear_63 : decode b_R_nextYear 63 = .ok (.iastore, 1) := by decide +kernel
theorem d_R_nextYear_64 : decode b_R_nextYear 64 = .ok (.iconst 1, 1) := by decide +kernel
theorem d_R_nextYear_65 : decode b_R_nextYear 65 = .ok (.istore 4, 2) := by decide +kernel
theorem d_R_nextYear_67 : decode b_R_nextYear 67 = .ok (.iload 4, 2) := by decide +kernel
theorem d_R_nextYear_69 : decode b_R_nextYear 69 = .ok (.bipush 13, 2) := by decide +kernel
theorem d_R_nextYear_71 : decode b_R_nextYear 71 = .ok (.if_icmp .ge 22, 3) := by decide +kernel
theorem d_R_nextYear_74 : decode b_R_nextYear 74 = .ok (.aload_n 0, 1) := by decide +kernel
theorem d_R_nextYear_75 : decode b_R_nextYear 75 = .ok (.getfield 19, 3) := by decide +kernel
theorem d_R_nextYear_78 : decode b_R_nextYear 78 = .ok (.bipush 13, 2) := by decide +kernel
theorem d_R_nextYear_80 : decode b_R_nextYear 80 = .ok (.iload_n 1, 1) := by decide +kernel
theorem d_R_nextYear_81 : decode b_R_nextYear 81 = .ok (.imul, 1) := by decide +kernel
theorem d_R_nextYear_82 : decode b_R_nextYear 82 = .ok (.iload 4, 2) := by decide +kernel
theorem d_R_nextYear_84 : decode b_R_nextYear 84 = .ok (.iadd, 1) := by decide +kernel
theorem d_R_nextYear_85 : decode b_R_nextYear 85 = .ok (.iconst (-1), 1) := by decide +kernel
theorem d_R_nextYear_86 : decode b_R_nextYear 86 = .ok (.iastore, 1) := by decide +kernel
theorem d_R_nextYear_87 : decode b_R_nextYear 87 = .ok (.iinc 4 1, 3) := by decide +kernel
theorem d_R_nextYear_90 : decode b_R_nextYear 90 = .ok (.goto (-23), 3) := by decide +kernel
theorem d_R_nextYear_93 : decode b_R_nextYear 93 = .ok (.iconst 0, 1) := by decide +kernel
theorem d_R_nextYear_94 : decode b_R_nextYear 94 = .ok (.istore 4, 2) := by decide +kernel
theorem d_R_nextYear_96 : decode b_R_nextYear 96 = .ok (.iload 4, 2) := by decide +kernel
theorem d_R_nextYear_98 : decode b_R_nextYear 98 = .ok (.bipush 12, 2) := by decide +kernel
theorem d_R_nextYear_100 : decode b_R_nextYear 100 = .ok (.if_icmp .ge 23, 3) := by decide +kernel
theorem d_R_nextYear_103 : decode b_R_nextYear 103 = .ok (.aload_n 0, 1) := by decide +kernel
theorem d_R_nextYear_104 : decode b_R_nextYear 104 = .ok (.getfield 22, 3) := by decide +kernel
theorem d_R_nextYear_107 : decode b_R_nextYear 107 = .ok (.bipush 12, 2) := by decide +kernel
theorem d_R_nextYear_109 : decode b_R_nextYear 109 = .ok (.iload_n 1, 1) := by decide +kernel
theorem d_R_nextYear_110 : decode b_R_nextYear 110 = .ok (.imul, 1) := by decide +kernel
theorem d_R_nextYear_111 : decode b_R_nextYear 111 = .ok (.iload 4, 2) := by decide +kernel
theorem d_R_nextYear_113 : decode b_R_nextYear 113 = .ok (.iadd, 1) := by decide +kernel
theorem d_R_nextYear_114 : decode b_R_nextYear 114 = .ok (.bipush (-5), 2) := by decide +kernel
theorem d_R_nextYear_116 : decode b_R_nextYear 116 = .ok (.iastore, 1) := by decide +kernel
theorem d_R_nextYear_117 : decode b_R_nextYear 117 = .ok (.iinc 4 1, 3) := by decide +kernel
theorem d_R_nextYear_120 : decode b_R_nextYear 120 = .ok (.goto (-24), 3) := by decide +kernel
theorem d_R_nextYear_123 : decode b_R_nextYear 123 = .ok (.return_, 1) := by decide +kernel
theorem d_R_closeYear_0 : decode b_R_closeYear 0 = .ok (.aload_n 0, 1) := by decide +kernel
theorem d_R_closeYear_1 : decode b_R_closeYear 1 = .ok (.aload_n 0, 1) := by decide +kernel
theorem d_R_closeYear_2 : decode b_R_closeYear 2 = .ok (.getfield 98, 3) := by decide +kernel
theorem d_R_closeYear_5 : decode b_R_closeYear 5 = .ok (.ifCond .eq 7, 3) := by decide +kernel
theorem d_R_closeYear_8 : decode b_R_closeYear 8 = .ok (.iconst 0, 1) := by decide +kernel
theorem d_R_closeYear_9 : decode b_R_closeYear 9 = .ok (.goto 4, 3) := by decide +kernel
theorem d_R_closeYear_12 : decode b_R_closeYear 12 = .ok (.iconst 1, 1) := by decide +kernel
theorem d_R_closeYear_13 : decode b_R_closeYear 13 = .ok (.putfield 85, 3) := by decide +kernel
theorem d_R_closeYear_16 : decode b_R_closeYear 16 = .ok (.aload_n 0, 1) := by decide +kernel
theorem d_R_closeYear_17 : decode b_R_closeYear 17 = .ok (.getfield 85, 3) := by decide +kernel
theorem d_R_closeYear_20 : decode b_R_closeYear 20 = .ok (.ifCond .le 5, 3) := by decide +kernel
theorem d_R_closeYear_23 : decode b_R_closeYear 23 = .ok (.iconst 0, 1) := by decide +kernel
theorem d_R_closeYear_24 : decode b_R_closeYear 24 = .ok (.ireturn, 1) := by decide +kernel
theorem d_R_closeYear_25 : decode b_R_closeYear 25 = .ok (.aload_n 0, 1) := by decide +kernel
theorem d_R_closeYear_26 : decode b_R_closeYear 26 = .ok (.invokevirtual 236, 3) := by decide +kernel
theorem d_R_closeYear_29 : decode b_R_closeYear 29 = .ok (.istore_n 1, 1) := by decide +kernel
theorem d_R_closeYear_30 : decode b_R_closeYear 30 = .ok (.aload_n 0, 1) := by decide +kernel
theorem d_R_closeYear_31 : decode b_R_closeYear 31 = .ok (.invokevirtual 239, 3) := by decide +kernel
theorem d_R_closeYear_34 : decode b_R_closeYear 34 = .ok (.aload_n 0, 1) := by decide +kernel
theorem d_R_closeYear_35 : decode b_R_closeYear 35 = .ok (.invokevirtual 159, 3) := by decide +kernel
theorem d_R_closeYear_38 : decode b_R_closeYear 38 = .ok (.iconst 0, 1) := by decide +kernel
theorem d_R_closeYear_39 : decode b_R_closeYear 39 = .ok (.istore_n 2, 1) := by decide +kernel
theorem d_R_closeYear_40 : decode b_R_closeYear 40 = .ok (.iload_n 2, 1) := by decide +kernel
theorem d_R_closeYear_41 : decode b_R_closeYear 41 = .ok (.aload_n 0, 1) := by decide +kernel
theorem d_R_closeYear_42 : decode b_R_closeYear 42 = .ok (.getfield 88, 3) := by decide +kernel
theorem d_R_closeYear_45 : decode b_R_closeYear 45 = .ok (.if_icmp .ge 14, 3) := by decide +kernel
theorem d_R_closeYear_48 : decode b_R_closeYear 48 = .ok (.aload_n 0, 1) := by decide +kernel
theorem d_R_closeYear_49 : decode b_R_closeYear 49 = .ok (.iload_n 2, 1) := by decide +kernel
theorem d_R_closeYear_50 : decode b_R_closeYear 50 = .ok (.invokevirtual 242, 3) := by decide +kernel
theorem d_R_closeYear_53 : decode b_R_closeYear 53 = .ok (.iinc 2 1, 3) := by decide +kernel
theorem d_R_closeYear_56 : decode b_R_closeYear 56 = .ok (.goto (-16), 3) := by decide +kernel
theorem d_R_closeYear_59 : decode b_R_closeYear 59 = .ok (.iconst 0, 1) := by decide +kernel
theorem d_R_closeYear_60 : decode b_R_closeYear 60 = .ok (.istore_n 2, 1) := by decide +kernel
theorem d_R_closeYear_61 : decode b_R_closeYear 61 = .ok (.iload_n 2, 1) := by decide +kernel
theorem d_R_closeYear_62 : decode b_R_closeYear 62 = .ok (.bipush 21, 2) := by decide +kernel
theorem d_R_closeYear_64 : decode b_R_closeYear 64 = .ok (.if_icmp .ge 23, 3) := by decide +kernel
theorem d_R_closeYear_67 : decode b_R_closeYear 67 = .ok (.aload_n 0, 1) := by decide +kernel
theorem d_R_closeYear_68 : decode b_R_closeYear 68 = .ok (.getfield 59, 3) := by decide +kernel
theorem d_R_closeYear_71 : decode b_R_closeYear 71 = .ok (.iload_n 2, 1) := by decide +kernel
theorem d_R_closeYear_72 : decode b_R_closeYear 72 = .ok (.iconst 0, 1) := by decide +kernel
theorem d_R_closeYear_73 : decode b_R_closeYear 73 = .ok (.iastore, 1) := by decide +kernel
theorem d_R_closeYear_74 : decode b_R_closeYear 74 = .ok (.aload_n 0, 1) := by decide +kernel
theorem d_R_closeYear_75 : decode b_R_closeYear 75 = .ok (.getfield 62, 3) := by decide +kernel
theorem d_R_closeYear_78 : decode b_R_closeYear 78 = .ok (.iload_n 2, 1) := by decide +kernel
theorem d_R_closeYear_79 : decode b_R_closeYear 79 = .ok (.iconst 0, 1) := by decide +kernel
theorem d_R_closeYear_80 : decode b_R_closeYear 80 = .ok (.iastore, 1) := by decide +kernel
theorem d_R_closeYear_81 : decode b_R_closeYear 81 = .ok (.iinc 2 1, 3) := by decide +kernel
theorem d_R_closeYear_84 : decode b_R_closeYear 84 = .ok (.goto (-23), 3) := by decide +kernel
theorem d_R_closeYear_87 : decode b_R_closeYear 87 = .ok (.iconst 0, 1) := by decide +kernel
theorem d_R_closeYear_88 : decode b_R_closeYear 88 = .ok (.istore_n 2, 1) := by decide +kernel
theorem d_R_closeYear_89 : decode b_R_closeYear 89 = .ok (.iload_n 2, 1) := by decide +kernel
theorem d_R_closeYear_90 : decode b_R_closeYear 90 = .ok (.bipush 20, 2) := by decide +kernel
theorem d_R_closeYear_92 : decode b_R_closeYear 92 = .ok (.if_icmp .ge 16, 3) := by decide +kernel
theorem d_R_closeYear_95 : decode b_R_closeYear 95 = .ok (.aload_n 0, 1) := by decide +kernel
theorem d_R_closeYear_96 : decode b_R_closeYear 96 = .ok (.getfield 56, 3) := by decide +kernel
theorem d_R_closeYear_99 : decode b_R_closeYear 99 = .ok (.iload_n 2, 1) := by decide +kernel
theorem d_R_closeYear_100 : decode b_R_closeYear 100 = .ok (.iconst 0, 1) := by decide +kernel
theorem d_R_closeYear_101 : decode b_R_closeYear 101 = .ok (.iastore, 1) := by decide +kernel
theorem d_R_closeYear_102 : decode b_R_closeYear 102 = .ok (.iinc 2 1, 3) := by decide +kernel
theorem d_R_closeYear_105 : decode b_R_closeYear 105 = .ok (.goto (-16), 3) := by decide +kernel
theorem d_R_closeYear_108 : decode b_R_closeYear 108 = .ok (.aload_n 0, 1) := by decide +kernel
theorem d_R_closeYear_109 : decode b_R_closeYear 109 = .ok (.iconst (-1), 1) := by decide +kernel
theorem d_R_closeYear_110 : decode b_R_closeYear 110 = .ok (.putfield 37, 3) := by decide +kernel
theorem d_R_closeYear_113 : decode b_R_closeYear 113 = .ok (.aload_n 0, 1) := by decide +kernel
theorem d_R_closeYear_114 : decode b_R_closeYear 114 = .ok (.iconst (-1), 1) := by decide +kernel
theorem d_R_closeYear_115 : decode b_R_closeYear 115 = .ok (.putfield 41, 3) := by decide +kernel
theorem d_R_closeYear_118 : decode b_R_closeYear 118 = .ok (.aload_n 0, 1) := by decide +kernel
theorem d_R_closeYear_119 : decode b_R_closeYear 119 = .ok (.iconst 0, 1) := by decide +kernel
theorem d_R_closeYear_120 : decode b_R_closeYear 120 = .ok (.putfield 117, 3) := by decide +kernel
theorem d_R_closeYear_123 : decode b_R_closeYear 123 = .ok (.aload_n 0, 1) := by decide +kernel
theorem d_R_closeYear_124 : decode b_R_closeYear 124 = .ok (.iconst 0, 1) := by decide +kernel
theorem d_R_closeYear_125 : decode b_R_closeYear 125 = .ok (.putfield 98, 3) := by decide +kernel
theorem d_R_closeYear_128 : decode b_R_closeYear 128 = .ok (.aload_n 0, 1) := by decide +kernel
theorem d_R_closeYear_129 : decode b_R_closeYear 129 = .ok (.invokevirtual 113, 3) := by decide +kernel
theorem d_R_closeYear_132 : decode b_R_closeYear 132 = .ok (.ireturn, 1) := by decide +kernel
theorem d_R_known_0 : decode b_R_known 0 = .ok (.aload_n 0, 1) := by decide +kernel
theorem d_R_known_1 : decode b_R_known 1 = .ok (.aload_n 0, 1) := by decide +kernel
theorem d_R_known_2 : decode b_R_known 2 = .ok (.iload_n 1, 1) := by decide +kernel
theorem d_R_known_3 : decode b_R_known 3 = .ok (.invokevirtual 102, 3) := by decide +kernel
theorem d_R_known_6 : decode b_R_known 6 = .ok (.ifCond .eq 7, 3) := by decide +kernel
theorem d_R_known_9 : decode b_R_known 9 = .ok (.iconst 0, 1) := by decide +kernel
theorem d_R_known_10 : decode b_R_known 10 = .ok (.goto 4, 3) := by decide +kernel
theorem d_R_known_13 : decode b_R_known 13 = .ok (.iconst 1, 1) := by decide +kernel
theorem d_R_known_14 : decode b_R_known 14 = .ok (.putfield 85, 3) := by decide +kernel
theorem d_R_known_17 : decode b_R_known 17 = .ok (.aload_n 0, 1) := by decide +kernel
theorem d_R_known_18 : decode b_R_known 18 = .ok (.getfield 85, 3) := by decide +kernel
theorem d_R_known_21 : decode b_R_known 21 = .ok (.ifCond .le 7, 3) := by decide +kernel
theorem d_R_known_24 : decode b_R_known 24 = .ok (.iconst 0, 1) := by decide +kernel
theorem d_R_known_25 : decode b_R_known 25 = .ok (.goto 9, 3) := by decide +kernel
theorem d_R_known_28 : decode b_R_known 28 = .ok (.aload_n 0, 1) := by decide +kernel
theorem d_R_known_29 : decode b_R_known 29 = .ok (.getfield 28, 3) := by decide +kernel
theorem d_R_known_32 : decode b_R_known 32 = .ok (.iload_n 1, 1) := by decide +kernel
theorem d_R_known_33 : decode b_R_known 33 = .ok (.iaload, 1) := by decide +kernel
theorem d_R_known_34 : decode b_R_known 34 = .ok (.ireturn, 1) := by decide +kernel

