/-! Decode rows. -/
theorem d_R_init_0 : decode b_R_init 0 = .ok (.aload_n 0, 1) := by decide +kernel
theorem d_R_init_1 : decode b_R_init 1 = .ok (.invokespecial 1, 3) := by decide +kernel
theorem d_R_init_4 : decode b_R_init 4 = .ok (.aload_n 0, 1) := by decide +kernel
theorem d_R_init_5 : decode b_R_init 5 = .ok (.bipush 6, 2) := by decide +kernel
theorem d_R_init_7 : decode b_R_init 7 = .ok (.newarray .int, 2) := by decide +kernel
theorem d_R_init_9 : decode b_R_init 9 = .ok (.putfield 7, 3) := by decide +kernel
theorem d_R_init_12 : decode b_R_init 12 = .ok (.aload_n 0, 1) := by decide +kernel
theorem d_R_init_13 : decode b_R_init 13 = .ok (.bipush 6, 2) := by decide +kernel
theorem d_R_init_15 : decode b_R_init 15 = .ok (.newarray .int, 2) := by decide +kernel
theorem d_R_init_17 : decode b_R_init 17 = .ok (.putfield 13, 3) := by decide +kernel
theorem d_R_init_20 : decode b_R_init 20 = .ok (.aload_n 0, 1) := by decide +kernel
theorem d_R_init_21 : decode b_R_init 21 = .ok (.bipush 6, 2) := by decide +kernel
theorem d_R_init_23 : decode b_R_init 23 = .ok (.newarray .int, 2) := by decide +kernel
theorem d_R_init_25 : decode b_R_init 25 = .ok (.putfield 16, 3) := by decide +kernel
theorem d_R_init_28 : decode b_R_init 28 = .ok (.aload_n 0, 1) := by decide +kernel
theorem d_R_init_29 : decode b_R_init 29 = .ok (.bipush 78, 2) := by decide +kernel
theorem d_R_init_31 : decode b_R_init 31 = .ok (.newarray .int, 2) := by decide +kernel
theorem d_R_init_33 : decode b_R_init 33 = .ok (.putfield 19, 3) := by decide +kernel
theorem d_R_init_36 : decode b_R_init 36 = .ok (.aload_n 0, 1) := by decide +kernel
theorem d_R_init_37 : decode b_R_init 37 = .ok (.bipush 72, 2) := by decide +kernel
theorem d_R_init_39 : decode b_R_init 39 = .ok (.newarray .int, 2) := by decide +kernel
theorem d_R_init_41 : decode b_R_init 41 = .ok (.putfield 22, 3) := by decide +kernel
theorem d_R_init_44 : decode b_R_init 44 = .ok (.aload_n 0, 1) := by decide +kernel
theorem d_R_init_45 : decode b_R_init 45 = .ok (.bipush 6, 2) := by decide +kernel
theorem d_R_init_47 : decode b_R_init 47 = .ok (.newarray .int, 2) := by decide +kernel
theorem d_R_init_49 : decode b_R_init 49 = .ok (.putfield 25, 3) := by decide +kernel
theorem d_R_init_52 : decode b_R_init 52 = .ok (.aload_n 0, 1) := by decide +kernel
theorem d_R_init_53 : decode b_R_init 53 = .ok (.bipush 6, 2) := by decide +kernel
theorem d_R_init_55 : decode b_R_init 55 = .ok (.newarray .int, 2) := by decide +kernel
theorem d_R_init_57 : decode b_R_init 57 = .ok (.putfield 28, 3) := by decide +kernel
theorem d_R_init_60 : decode b_R_init 60 = .ok (.aload_n 0, 1) := by decide +kernel
theorem d_R_init_61 : decode b_R_init 61 = .ok (.bipush 12, 2) := by decide +kernel
theorem d_R_init_63 : decode b_R_init 63 = .ok (.newarray .int, 2) := by decide +kernel
theorem d_R_init_65 : decode b_R_init 65 = .ok (.putfield 31, 3) := by decide +kernel
theorem d_R_init_68 : decode b_R_init 68 = .ok (.aload_n 0, 1) := by decide +kernel
theorem d_R_init_69 : decode b_R_init 69 = .ok (.bipush 12, 2) := by decide +kernel
theorem d_R_init_71 : decode b_R_init 71 = .ok (.newarray .int, 2) := by decide +kernel
theorem d_R_init_73 : decode b_R_init 73 = .ok (.putfield 34, 3) := by decide +kernel
theorem d_R_init_76 : decode b_R_init 76 = .ok (.aload_n 0, 1) := by decide +kernel
theorem d_R_init_77 : decode b_R_init 77 = .ok (.iconst (-1), 1) := by decide +kernel
theorem d_R_init_78 : decode b_R_init 78 = .ok (.putfield 37, 3) := by decide +kernel
theorem d_R_init_81 : decode b_R_init 81 = .ok (.aload_n 0, 1) := by decide +kernel
theorem d_R_init_82 : decode b_R_init 82 = .ok (.iconst (-1), 1) := by decide +kernel
theorem d_R_init_83 : decode b_R_init 83 = .ok (.putfield 41, 3) := by decide +kernel
theorem d_R_init_86 : decode b_R_init 86 = .ok (.aload_n 0, 1) := by decide +kernel
theorem d_R_init_87 : decode b_R_init 87 = .ok (.sipush 500, 3) := by decide +kernel
theorem d_R_init_90 : decode b_R_init 90 = .ok (.putfield 44, 3) := by decide +kernel
theorem d_R_init_93 : decode b_R_init 93 = .ok (.aload_n 0, 1) := by decide +kernel
theorem d_R_init_94 : decode b_R_init 94 = .ok (.bipush 12, 2) := by decide +kernel
theorem d_R_init_96 : decode b_R_init 96 = .ok (.newarray .int, 2) := by decide +kernel
theorem d_R_init_98 : decode b_R_init 98 = .ok (.putfield 47, 3) := by decide +kernel
theorem d_R_init_101 : decode b_R_init 101 = .ok (.aload_n 0, 1) := by decide +kernel
theorem d_R_init_102 : decode b_R_init 102 = .ok (.iconst 5, 1) := by decide +kernel
theorem d_R_init_103 : decode b_R_init 103 = .ok (.newarray .int, 2) := by decide +kernel
theorem d_R_init_105 : decode b_R_init 105 = .ok (.putfield 50, 3) := by decide +kernel
theorem d_R_init_108 : decode b_R_init 108 = .ok (.aload_n 0, 1) := by decide +kernel
theorem d_R_init_109 : decode b_R_init 109 = .ok (.bipush 63, 2) := by decide +kernel
theorem d_R_init_111 : decode b_R_init 111 = .ok (.newarray .int, 2) := by decide +kernel
theorem d_R_init_113 : decode b_R_init 113 = .ok (.putfield 53, 3) := by decide +kernel
theorem d_R_init_116 : decode b_R_init 116 = .ok (.aload_n 0, 1) := by decide +kernel
theorem d_R_init_117 : decode b_R_init 117 = .ok (.bipush 20, 2) := by decide +kernel
theorem d_R_init_119 : decode b_R_init 119 = .ok (.newarray .int, 2) := by decide +kernel
theorem d_R_init_121 : decode b_R_init 121 = .ok (.putfield 56, 3) := by decide +kernel
theorem d_R_init_124 : decode b_R_init 124 = .ok (.aload_n 0, 1) := by decide +kernel
theorem d_R_init_125 : decode b_R_init 125 = .ok (.bipush 21, 2) := by decide +kernel
theorem d_R_init_127 : decode b_R_init 127 = .ok (.newarray .int, 2) := by decide +kernel
theorem d_R_init_129 : decode b_R_init 129 = .ok (.putfield 59, 3) := by decide +kernel
theorem d_R_init_132 : decode b_R_init 132 = .ok (.aload_n 0, 1) := by decide +kernel
theorem d_R_init_133 : decode b_R_init 133 = .ok (.bipush 21, 2) := by decide +kernel
theorem d_R_init_135 : decode b_R_init 135 = .ok (.newarray .int, 2) := by decide +kernel
theorem d_R_init_137 : decode b_R_init 137 = .ok (.putfield 62, 3) := by decide +kernel
theorem d_R_init_140 : decode b_R_init 140 = .ok (.aload_n 0, 1) := by decide +kernel
theorem d_R_init_141 : decode b_R_init 141 = .ok (.bipush 6, 2) := by decide +kernel
theorem d_R_init_143 : decode b_R_init 143 = .ok (.newarray .long, 2) := by decide +kernel
theorem d_R_init_145 : decode b_R_init 145 = .ok (.putfield 65, 3) := by decide +kernel
theorem d_R_init_148 : decode b_R_init 148 = .ok (.aload_n 0, 1) := by decide +kernel
theorem d_R_init_149 : decode b_R_init 149 = .ok (.bipush 72, 2) := by decide +kernel
theorem d_R_init_151 : decode b_R_init 151 = .ok (.newarray .int, 2) := by decide +kernel
theorem d_R_init_153 : decode b_R_init 153 = .ok (.putfield 69, 3) := by decide +kernel
theorem d_R_init_156 : decode b_R_init 156 = .ok (.aload_n 0, 1) := by decide +kernel
theorem d_R_init_157 : decode b_R_init 157 = .ok (.bipush 72, 2) := by decide +kernel
theorem d_R_init_159 : decode b_R_init 159 = .ok (.newarray .long, 2) := by decide +kernel
theorem d_R_init_161 : decode b_R_init 161 = .ok (.putfield 72, 3) := by decide +kernel
theorem d_R_init_164 : decode b_R_init 164 = .ok (.aload_n 0, 1) := by decide +kernel
theorem d_R_init_165 : decode b_R_init 165 = .ok (.bipush 72, 2) := by decide +kernel
theorem d_R_init_167 : decode b_R_init 167 = .ok (.newarray .long, 2) := by decide +kernel
theorem d_R_init_169 : decode b_R_init 169 = .ok (.putfield 75, 3) := by decide +kernel
theorem d_R_init_172 : decode b_R_init 172 = .ok (.aload_n 0, 1) := by decide +kernel
theorem d_R_init_173 : decode b_R_init 173 = .ok (.bipush 72, 2) := by decide +kernel
theorem d_R_init_175 : decode b_R_init 175 = .ok (.newarray .int, 2) := by decide +kernel
theorem d_R_init_177 : decode b_R_init 177 = .ok (.putfield 78, 3) := by decide +kernel
theorem d_R_init_180 : decode b_R_init 180 = .ok (.aload_n 0, 1) := by decide +kernel
theorem d_R_init_181 : decode b_R_init 181 = .ok (.bipush 72, 2) := by decide +kernel
theorem d_R_init_183 : decode b_R_init 183 = .ok (.newarray .boolean, 2) := by decide +kernel
theorem d_R_init_185 : decode b_R_init 185 = .ok (.putfield 81, 3) := by decide +kernel
theorem d_R_init_188 : decode b_R_init 188 = .ok (.return_, 1) := by decide +kernel
theorem d_R_thrown_0 : decode b_R_thrown 0 = .ok (.aload_n 0, 1) := by decide +kernel
theorem d_R_thrown_1 : decode b_R_thrown 1 = .ok (.getfield 85, 3) := by decide +kernel
theorem d_R_thrown_4 : decode b_R_thrown 4 = .ok (.ireturn, 1) := by decide +kernel
theorem d_R_within_0 : decode b_R_within 0 = .ok (.iload_n 0, 1) := by decide +kernel
theorem d_R_within_1 : decode b_R_within 1 = .ok (.iload_n 1, 1) := by decide +kernel
theorem d_R_within_2 : decode b_R_within 2 = .ok (.if_icmp .lt 12, 3) := by decide +kernel
theorem d_R_within_5 : decode b_R_within 5 = .ok (.iload_n 0, 1) := by decide +kernel
theorem d_R_within_6 : decode b_R_within 6 = .ok (.iload_n 2, 1) := by decide +kernel
theorem d_R_within_7 : decode b_R_within 7 = .ok (.if_icmp .gt 7, 3) := by decide +kernel
theorem d_R_within_10 : decode b_R_within 10 = .ok (.iconst 1, 1) := by decide +kernel
theorem d_R_within_11 : decode b_R_within 11 = .ok (.goto 4, 3) := by decide +kernel
theorem d_R_within_14 : decode b_R_within 14 = .ok (.iconst 0, 1) := by decide +kernel
theorem d_R_within_15 : decode b_R_within 15 = .ok (.ireturn, 1) := by decide +kernel
theorem d_R_isFlat_0 : decode b_R_isFlat 0 = .ok (.iload_n 1, 1) := by decide +kernel
theorem d_R_isFlat_1 : decode b_R_isFlat 1 = .ok (.ifCond .lt 15, 3) := by decide +kernel
theorem d_R_isFlat_4 : decode b_R_isFlat 4 = .ok (.iload_n 1, 1) := by decide +kernel
theorem d_R_isFlat_5 : decode b_R_isFlat 5 = .ok (.aload_n 0, 1) := by decide +kernel
theorem d_R_isFlat_6 : decode b_R_isFlat 6 = .ok (.getfield 88, 3) := by decide +kernel
theorem d_R_isFlat_9 : decode b_R_isFlat 9 = .ok (.if_icmp .ge 7, 3) := by decide +kernel
theorem d_R_isFlat_12 : decode b_R_isFlat 12 = .ok (.iconst 1, 1) := by decide +kernel
theorem d_R_isFlat_13 : decode b_R_isFlat 13 = .ok (.goto 4, 3) := by decide +kernel
theorem d_R_isFlat_16 : decode b_R_isFlat 16 = .ok (.iconst 0, 1) := by decide +kernel
theorem d_R_isFlat_17 : decode b_R_isFlat 17 = .ok (.ireturn, 1) := by decide +kernel
theorem d_R_isTenant_0 : decode b_R_isTenant 0 = .ok (.iload_n 1, 1) := by decide +kernel
theorem d_R_isTenant_1 : decode b_R_isTenant 1 = .ok (.ifCond .lt 15, 3) := by decide +kernel
theorem d_R_isTenant_4 : decode b_R_isTenant 4 = .ok (.iload_n 1, 1) := by decide +kernel
theorem d_R_isTenant_5 : decode b_R_isTenant 5 = .ok (.aload_n 0, 1) := by decide +kernel
theorem d_R_isTenant_6 : decode b_R_isTenant 6 = .ok (.getfield 91, 3) := by decide +kernel
theorem d_R_isTenant_9 : decode b_R_isTenant 9 = .ok (.if_icmp .ge 7, 3) := by decide +kernel
theorem d_R_isTenant_12 : decode b_R_isTenant 12 = .ok (.iconst 1, 1) := by decide +kernel
theorem d_R_isTenant_13 : decode b_R_isTenant 13 = .ok (.goto 4, 3) := by decide +kernel
theorem d_R_isTenant_16 : decode b_R_isTenant 16 = .ok (.iconst 0, 1) := by decide +kernel
theorem d_R_isTenant_17 : decode b_R_isTenant 17 = .ok (.ireturn, 1) := by decide +kernel
theorem d_R_flat_0 : decode b_R_flat 0 = .ok (.aload_n 0, 1) := by decide +kernel
theorem d_R_flat_1 : decode b_R_flat 1 = .ok (.iload_n 1, 1) := by decide +kernel
theorem d_R_flat_2 : decode b_R_flat 2 = .ok (.iconst 1, 1) := by decide +kernel
theorem d_R_flat_3 : decode b_R_flat 3 = .ok (.bipush 50, 2) := by decide +kernel
theorem d_R_flat_5 : decode b_R_flat 5 = .ok (.invokestatic 94, 3) := by decide +kernel
theorem d_R_flat_8 : decode b_R_flat 8 = .ok (.ifCond .eq 22, 3) := by decide +kernel
theorem d_R_flat_11 : decode b_R_flat 11 = .ok (.iload_n 2, 1) := by decide +kernel
theorem d_R_flat_12 : decode b_R_flat 12 = .ok (.iconst 0, 1) := by decide +kernel
theorem d_R_flat_13 : decode b_R_flat 13 = .ok (.bipush 50, 2) := by decide +kernel
theorem d_R_flat_15 : decode b_R_flat 15 = .ok (.invokestatic 94, 3) := by decide +kernel
theorem d_R_flat_18 : decode b_R_flat 18 = .ok (.ifCond .eq 12, 3) := by decide +kernel
theorem d_R_flat_21 : decode b_R_flat 21 = .ok (.iload_n 3, 1) := by decide +kernel
theorem d_R_flat_22 : decode b_R_flat 22 = .ok (.iconst 1, 1) := by decide +kernel
theorem d_R_flat_23 : decode b_R_flat 23 = .ok (.iconst 2, 1) := by decide +kernel
theorem d_R_flat_24 : decode b_R_flat 24 = .ok (.invokestatic 94, 3) := by decide +kernel
theorem d_R_flat_27 : decode b_R_flat 27 = .ok (.ifCond .ne 7, 3) := by decide +kernel
theorem d_R_flat_30 : decode b_R_flat 30 = .ok (.iconst 1, 1) := by decide +kernel
theorem d_R_flat_31 : decode b_R_flat 31 = .ok (.goto 17, 3) := by decide +kernel
theorem d_R_flat_34 : decode b_R_flat 34 = .ok (.aload_n 0, 1) := by decide +kernel
theorem d_R_flat_35 : decode b_R_flat 35 = .ok (.getfield 88, 3) := by decide +kernel
theorem d_R_flat_38 : decode b_R_flat 38 = .ok (.bipush 6, 2) := by decide +kernel
theorem d_R_flat_40 : decode b_R_flat 40 = .ok (.if_icmp .ne 7, 3) := by decide +kernel
theorem d_R_flat_43 : decode b_R_flat 43 = .ok (.iconst 2, 1) := by decide +kernel
theorem d_R_flat_44 : decode b_R_flat 44 = .ok (.goto 4, 3) := by decide +kernel
theorem d_R_flat_47 : decode b_R_flat 47 = .ok (.iconst 0, 1) := by decide +kernel
theorem d_R_flat_48 : decode b_R_flat 48 = .ok (.putfield 85, 3) := by decide +kernel
theorem d_R_flat_51 : decode b_R_flat 51 = .ok (.aload_n 0, 1) := by decide +kernel
theorem d_R_flat_52 : decode b_R_flat 52 = .ok (.getfield 85, 3) := by decide +kernel
theorem d_R_flat_55 : decode b_R_flat 55 = .ok (.ifCond .le 5, 3) := by decide +kernel
theorem d_R_flat_58 : decode b_R_flat 58 = .ok (.iconst 0, 1) := by decide +kernel
theorem d_R_flat_59 : decode b_R_flat 59 = .ok (.ireturn, 1) := by decide +kernel
theorem d_R_flat_60 : decode b_R_flat 60 = .ok (.aload_n 0, 1) := by decide +kernel
theorem d_R_flat_61 : decode b_R_flat 61 = .ok (.getfield 7, 3) := by decide +kernel
theorem d_R_flat_64 : decode b_R_flat 64 = .ok (.aload_n 0, 1) := by decide +kernel
theorem d_R_flat_65 : decode b_R_flat 65 = .ok (.getfield 88, 3) := by decide +kernel
theorem d_R_flat_68 : decode b_R_flat 68 = .ok (.iload_n 1, 1) := by decide +kernel
theorem d_R_flat_69 : decode b_R_flat 69 = .ok (.iastore, 1) := by decide +kernel
theorem d_R_flat_70 : decode b_R_flat 70 = .ok (.aload_n 0, 1) := by decide +kernel
theorem d_R_flat_71 : decode b_R_flat 71 = .ok (.getfield 13, 3) := by decide +kernel
theorem d_R_flat_74 : decode b_R_flat 74 = .ok (.aload_n 0, 1) := by decide +kernel
theorem d_R_flat_75 : decode b_R_flat 75 = .ok (.getfield 88, 3) := by decide +kernel
theorem d_R_flat_78 : decode b_R_flat 78 = .ok (.iload_n 2, 1) := by decide +kernel
theorem d_R_flat_79 : decode b_R_flat 79 = .ok (.iastore, 1) := by decide +kernel
theorem d_R_flat_80 : decode b_R_flat 80 = .ok (.aload_n 0, 1) := by decide +kernel
theorem d_R_flat_81 : decode b_R_flat 81 = .ok (.getfield 16, 3) := by decide +kernel
theorem d_R_flat_84 : decode b_R_flat 84 = .ok (.aload_n 0, 1) := by decide +kernel
theorem d_R_flat_85 : decode b_R_flat 85 = .ok (.getfield 88, 3) := by decide +kernel
theorem d_R_flat_88 : decode b_R_flat 88 = .ok (.iload_n 3, 1) := by decide +kernel
theorem d_R_flat_89 : decode b_R_flat 89 = .ok (.iastore, 1) := by decide +kernel
theorem d_R_flat_90 : decode b_R_flat 90 = .ok (.aload_n 0, 1) := by decide +kernel
theorem d_R_flat_91 : decode b_R_flat 91 = .ok (.getfield 25, 3) := by decide +kernel
theorem d_R_flat_94 : decode b_R_flat 94 = .ok (.aload_n 0, 1) := by decide +kernel
theorem d_R_flat_95 : decode b_R_flat 95 = .ok (.getfield 88, 3) := by decide +kernel
theorem d_R_flat_98 : decode b_R_flat 98 = .ok (.iconst (-1), 1) := by decide +kernel
theorem d_R_flat_99 : decode b_R_flat 99 = .ok (.iastore, 1) := by decide +kernel
theorem d_R_flat_100 : decode b_R_flat 100 = .ok (.aload_n 0, 1) := by decide +kernel
theorem d_R_flat_101 : decode b_R_flat 101 = .ok (.getfield 28, 3) := by decide +kernel
theorem d_R_flat_104 : decode b_R_flat 104 = .ok (.aload_n 0, 1) := by decide +kernel
theorem d_R_flat_105 : decode b_R_flat 105 = .ok (.getfield 88, 3) := by decide +kernel
theorem d_R_flat_108 : decode b_R_flat 108 = .ok (.iconst (-1), 1) := by decide +kernel
theorem d_R_flat_109 : decode b_R_flat 109 = .ok (.iastore, 1) := by decide +kernel
theorem d_R_flat_110 : decode b_R_flat 110 = .ok (.iconst 0, 1) := by decide +kernel
theorem d_R_flat_111 : decode b_R_flat 111 = .ok (.istore 4, 2) := by decide +kernel
theorem d_R_flat_113 : decode b_R_flat 113 = .ok (.iload 4, 2) := by decide +kernel
theorem d_R_flat_115 : decode b_R_flat 115 = .ok (.bipush 13, 2) := by decide +kernel
theorem d_R_flat_117 : decode b_R_flat 117 = .ok (.if_icmp .ge 25, 3) := by decide +kernel
theorem d_R_flat_120 : decode b_R_flat 120 = .ok (.aload_n 0, 1) := by decide +kernel
theorem d_R_flat_121 : decode b_R_flat 121 = .ok (.getfield 19, 3) := by decide +kernel
theorem d_R_flat_124 : decode b_R_flat 124 = .ok (.bipush 13, 2) := by decide +kernel
theorem d_R_flat_126 : decode b_R_flat 126 = .ok (.aload_n 0, 1) := by decide +kernel
theorem d_R_flat_127 : decode b_R_flat 127 = .ok (.getfield 88, 3) := by decide +kernel
theorem d_R_flat_130 : decode b_R_flat 130 = .ok (.imul, 1) := by decide +kernel
theorem d_R_flat_131 : decode b_R_flat 131 = .ok (.iload 4, 2) := by decide +kernel
theorem d_R_flat_133 : decode b_R_flat 133 = .ok (.iadd, 1) := by decide +kernel
theorem d_R_flat_134 : decode b_R_flat 134 = .ok (.iconst (-1), 1) := by decide +kernel
theorem d_R_flat_135 : decode b_R_flat 135 = .ok (.iastore, 1) := by decide +kernel
theorem d_R_flat_136 : decode b_R_flat 136 = .ok (.iinc 4 1, 3) := by decide +kernel
theorem d_R_flat_139 : decode b_R_flat 139 = .ok (.goto (-26), 3) := by decide +kernel
theorem d_R_flat_142 : decode b_R_flat 142 = .ok (.iconst 0, 1) := by decide +kernel
theorem d_R_flat_143 : decode b_R_flat 143 = .ok (.istore 4, 2) := by decide +kernel
theorem d_R_flat_145 : decode b_R_flat 145 = .ok (.iload 4, 2) := by decide +kernel
theorem d_R_flat_147 : decode b_R_flat 147 = .ok (.bipush 12, 2) := by decide +kernel
theorem d_R_flat_149 : decode b_R_flat 149 = .ok (.if_icmp .ge 26, 3) := by decide +kernel
theorem d_R_flat_152 : decode b_R_flat 152 = .ok (.aload_n 0, 1) := by decide +kernel
theorem d_R_flat_153 : decode b_R_flat 153 = .ok (.getfield 22, 3) := by decide +kernel
theorem d_R_flat_156 : decode b_R_flat 156 = .ok (.bipush 12, 2) := by decide +kernel
theorem d_R_flat_158 : decode b_R_flat 158 = .ok (.aload_n 0, 1) := by decide +kernel
theorem d_R_flat_159 : decode b_R_flat 159 = .ok (.getfield 88, 3) := by decide +kernel
theorem d_R_flat_162 : decode b_R_flat 162 = .ok (.imul, 1) := by decide +kernel
theorem d_R_flat_163 : decode b_R_flat 163 = .ok (.iload 4, 2) := by decide +kernel
theorem d_R_flat_165 : decode b_R_flat 165 = .ok (.iadd, 1) := by decide +kernel
theorem d_R_flat_166 : decode b_R_flat 166 = .ok (.bipush (-5), 2) := by decide +kernel
theorem d_R_flat_168 : decode b_R_flat 168 = .ok (.iastore, 1) := by decide +kernel
theorem d_R_flat_169 : decode b_R_flat 169 = .ok (.iinc 4 1, 3) := by decide +kernel
theorem d_R_flat_172 : decode b_R_flat 172 = .ok (.goto (-27), 3) := by decide +kernel
theorem d_R_flat_175 : decode b_R_flat 175 = .ok (.aload_n 0, 1) := by decide +kernel
theorem d_R_flat_176 : decode b_R_flat 176 = .ok (.dup, 1) := by decide +kernel
theorem d_R_flat_177 : decode b_R_flat 177 = .ok (.getfield 88, 3) := by decide +kernel
theorem d_R_flat_180 : decode b_R_flat 180 = .ok (.iconst 1, 1) := by decide +kernel
theorem d_R_flat_181 : decode b_R_flat 181 = .ok (.iadd, 1) := by decide +kernel
theorem d_R_flat_182 : decode b_R_flat 182 = .ok (.putfield 88, 3) := by decide +kernel
theorem d_R_flat_185 : decode b_R_flat 185 = .ok (.aload_n 0, 1) := by decide +kernel
theorem d_R_flat_186 : decode b_R_flat 186 = .ok (.iconst 0, 1) := by decide +kernel
theorem d_R_flat_187 : decode b_R_flat 187 = .ok (.putfield 98, 3) := by decide +kernel
theorem d_R_flat_190 : decode b_R_flat 190 = .ok (.aload_n 0, 1) := by decide +kernel
theorem d_R_flat_191 : decode b_R_flat 191 = .ok (.getfield 88, 3) := by decide +kernel
theorem d_R_flat_194 : decode b_R_flat 194 = .ok (.iconst 1, 1) := by decide +kernel
theorem d_R_flat_195 : decode b_R_flat 195 = .ok (.isub, 1) := by decide +kernel
theorem d_R_flat_196 : decode b_R_flat 196 = .ok (.ireturn, 1) := by decide +kernel
theorem d_R_reading_0 : decode b_R_reading 0 = .ok (.aload_n 0, 1) := by decide +kernel
theorem d_R_reading_1 : decode b_R_reading 1 = .ok (.aload_n 0, 1) := by decide +kernel
theorem d_R_reading_2 : decode b_R_reading 2 = .ok (.iload_n 1, 1) := by decide +kernel
theorem d_R_reading_3 : decode b_R_reading 3 = .ok (.invokevirtual 102, 3) := by decide +kernel
theorem d_R_reading_6 : decode b_R_reading 6 = .ok (.ifCond .eq 13, 3) := by decide +kernel
theorem d_R_reading_9 : decode b_R_reading 9 = .ok (.iload_n 2, 1) := by decide +kernel
theorem d_R_reading_10 : decode b_R_reading 10 = .ok (.iconst 0, 1) := by decide +kernel
theorem d_R_reading_11 : decode b_R_reading 11 = .ok (.bipush 12, 2) := by decide +kernel
theorem d_R_reading_13 : decode b_R_reading 13 = .ok (.invokestatic 94, 3) := by decide +kernel
theorem d_R_reading_16 : decode b_R_reading 16 = .ok (.ifCond .ne 7, 3) := by decide +kernel
theorem d_R_reading_19 : decode b_R_reading 19 = .ok (.iconst 1, 1) := by decide +kernel
theorem d_R_reading_20 : decode b_R_reading 20 = .ok (.goto 18, 3) := by decide +kernel
theorem d_R_reading_23 : decode b_R_reading 23 = .ok (.iload_n 3, 1) := by decide +kernel
theorem d_R_reading_24 : decode b_R_reading 24 = .ok (.iconst (-1), 1) := by decide +kernel
theorem d_R_reading_25 : decode b_R_reading 25 = .ok (.bipush 99, 2) := by decide +kernel
theorem d_R_reading_27 : decode b_R_reading 27 = .ok (.invokestatic 94, 3) := by decide +kernel
theorem d_R_reading_30 : decode b_R_reading 30 = .ok (.ifCond .ne 7, 3) := by decide +kernel
theorem d_R_reading_33 : decode b_R_reading 33 = .ok (.iconst 2, 1) := by decide +kernel
theorem d_R_reading_34 : decode b_R_reading 34 = .ok (.goto 4, 3) := by decide +kernel
theorem d_R_reading_37 : decode b_R_reading 37 = .ok (.iconst 0, 1) := by decide +kernel
theorem d_R_reading_38 : decode b_R_reading 38 = .ok (.putfield 85, 3) := by decide +kernel
theorem d_R_reading_41 : decode b_R_reading 41 = .ok (.aload_n 0, 1) := by decide +kernel
theorem d_R_reading_42 : decode b_R_reading 42 = .ok (.getfield 85, 3) := by decide +kernel
theorem d_R_reading_45 : decode b_R_reading 45 = .ok (.ifCond .ne 20, 3) := by decide +kernel
theorem d_R_reading_48 : decode b_R_reading 48 = .ok (.aload_n 0, 1) := by decide +kernel
theorem d_R_reading_49 : decode b_R_reading 49 = .ok (.getfield 19, 3) := by decide +kernel
theorem d_R_reading_52 : decode b_R_reading 52 = .ok (.bipush 13, 2) := by decide +kernel
theorem d_R_reading_54 : decode b_R_reading 54 = .ok (.iload_n 1, 1) := by decide +kernel
theorem d_R_reading_55 : decode b_R_reading 55 = .ok (.imul, 1) := by decide +kernel
theorem d_R_reading_56 : decode b_R_reading 56 = .ok (.iload_n 2, 1) := by decide +kernel
theorem d_R_reading_57 : decode b_R_reading 57 = .ok (.iadd, 1) := by decide +kernel
theorem d_R_reading_58 : decode b_R_reading 58 = .ok (.iload_n 3, 1) := by decide +kernel
theorem d_R_reading_59 : decode b_R_reading 59 = .ok (.iastore, 1) := by decide +kernel
theorem d_R_reading_60 : decode b_R_reading 60 = .ok (.aload_n 0, 1) := by decide +kernel
theorem d_R_reading_61 : decode b_R_reading 61 = .ok (.iconst 0, 1) := by decide +kernel
theorem d_R_reading_62 : decode b_R_reading 62 = .ok (.putfield 98, 3) := by decide +kernel
theorem d_R_reading_65 : decode b_R_reading 65 = .ok (.return_, 1) := by decide +kernel
theorem d_R_wrongChange_0 : decode b_R_wrongChange 0 = .ok (.aload_n 0, 1) := by decide +kernel
theorem d_R_wrongChange_1 : decode b_R_wrongChange 1 = .ok (.iload_n 1, 1) := by decide +kernel
theorem d_R_wrongChange_2 : decode b_R_wrongChange 2 = .ok (.invokevirtual 102, 3) := by decide +kernel
theorem d_R_wrongChange_5 : decode b_R_wrongChange 5 = .ok (.ifCond .eq 13, 3) := by decide +kernel
theorem d_R_wrongChange_8 : decode b_R_wrongChange 8 = .ok (.iload_n 2, 1) := by decide +kernel
theorem d_R_wrongChange_9 : decode b_R_wrongChange 9 = .ok (.iconst 0, 1) := by decide +kernel
theorem d_R_wrongChange_10 : decode b_R_wrongChange 10 = .ok (.bipush 11, 2) := by decide +kernel
theorem d_R_wrongChange_12 : decode b_R_wrongChange 12 = .ok (.invokestatic 94, 3) := by decide +kernel
theorem d_R_wrongChange_15 : decode b_R_wrongChange 15 = .ok (.ifCond .ne 7, 3) := by decide +kernel
theorem d_R_wrongChange_18 : decode b_R_wrongChange 18 = .ok (.iconst 1, 1) := by decide +kernel
theorem d_R_wrongChange_19 : decode b_R_wrongChange 19 = .ok (.goto 24, 3) := by decide +kernel
theorem d_R_wrongChange_22 : decode b_R_wrongChange 22 = .ok (.aload_n 0, 1) := by decide +kernel
theorem d_R_wrongChange_23 : decode b_R_wrongChange 23 = .ok (.getfield 22, 3) := by decide +kernel
theorem d_R_wrongChange_26 : decode b_R_wrongChange 26 = .ok (.bipush 12, 2) := by decide +kernel
theorem d_R_wrongChange_28 : decode b_R_wrongChange 28 = .ok (.iload_n 1, 1) := by decide +kernel
theorem d_R_wrongChange_29 : decode b_R_wrongChange 29 = .ok (.imul, 1) := by decide +kernel
theorem d_R_wrongChange_30 : decode b_R_wrongChange 30 = .ok (.iload_n 2, 1) := by decide +kernel
theorem d_R_wrongChange_31 : decode b_R_wrongChange 31 = .ok (.iadd, 1) := by decide +kernel
theorem d_R_wrongChange_32 : decode b_R_wrongChange 32 = .ok (.iaload, 1) := by decide +kernel
theorem d_R_wrongChange_33 : decode b_R_wrongChange 33 = .ok (.bipush (-5), 2) := by decide +kernel
theorem d_R_wrongChange_35 : decode b_R_wrongChange 35 = .ok (.if_icmp .eq 7, 3) := by decide +kernel
theorem d_R_wrongChange_38 : decode b_R_wrongChange 38 = .ok (.iconst 2, 1) := by decide +kernel
theorem d_R_wrongChange_39 : decode b_R_wrongChange 39 = .ok (.goto 4, 3) := by decide +kernel
theorem d_R_wrongChange_42 : decode b_R_wrongChange 42 = .ok (.iconst 0, 1) := by decide +kernel
theorem d_R_wrongChange_43 : decode b_R_wrongChange 43 = .ok (.ireturn, 1) := by decide +kernel
theorem d_R_enter_0 : decode b_R_enter 0 = .ok (.aload_n 0, 1) := by decide +kernel
theorem d_R_enter_1 : decode b_R_enter 1 = .ok (.aload_n 0, 1) := by decide +kernel
theorem d_R_enter_2 : decode b_R_enter 2 = .ok (.iload_n 1, 1) := by decide +kernel
theorem d_R_enter_3 : decode b_R_enter 3 = .ok (.iload_n 2, 1) := by decide +kernel
theorem d_R_enter_4 : decode b_R_enter 4 = .ok (.invokevirtual 106, 3) := by decide +kernel
theorem d_R_enter_7 : decode b_R_enter 7 = .ok (.putfield 85, 3) := by decide +kernel
theorem d_R_enter_10 : decode b_R_enter 10 = .ok (.aload_n 0, 1) := by decide +kernel
theorem d_R_enter_11 : decode b_R_enter 11 = .ok (.aload_n 0, 1) := by decide +kernel
theorem d_R_enter_12 : decode b_R_enter 12 = .ok (.getfield 85, 3) := by decide +kernel
theorem d_R_enter_15 : decode b_R_enter 15 = .ok (.ifCond .ne 16, 3) := by decide +kernel
theorem d_R_enter_18 : decode b_R_enter 18 = .ok (.aload_n 0, 1) := by decide +kernel
theorem d_R_enter_19 : decode b_R_enter 19 = .ok (.getfield 91, 3) := by decide +kernel
theorem d_R_enter_22 : decode b_R_enter 22 = .ok (.bipush 20, 2) := by decide +kernel
theorem d_R_enter_24 : decode b_R_enter 24 = .ok (.if_icmp .ne 7, 3) := by decide +kernel
theorem d_R_enter_27 : decode b_R_enter 27 = .ok (.iconst 3, 1) := by decide +kernel
theorem d_R_enter_28 : decode b_R_enter 28 = .ok (.goto 7, 3) := by decide +kernel
theorem d_R_enter_31 : decode b_R_enter 31 = .ok (.aload_n 0, 1) := by decide +kernel
theorem d_R_enter_32 : decode b_R_enter 32 = .ok (.getfield 85, 3) := by decide +kernel
theorem d_R_enter_35 : decode b_R_enter 35 = .ok (.putfield 85, 3) := by decide +kernel
theorem d_R_enter_38 : decode b_R_enter 38 = .ok (.aload_n 0, 1) := by decide +kernel
theorem d_R_enter_39 : decode b_R_enter 39 = .ok (.getfield 85, 3) := by decide +kernel
theorem d_R_enter_42 : decode b_R_enter 42 = .ok (.ifCond .le 5, 3) := by decide +kernel
theorem d_R_enter_45 : decode b_R_enter 45 = .ok (.iconst 0, 1) := by decide +kernel
theorem d_R_enter_46 : decode b_R_enter 46 = .ok (.ireturn, 1) := by decide +kernel
theorem d_R_enter_47 : decode b_R_enter 47 = .ok (.aload_n 0, 1) := by decide +kernel
theorem d_R_enter_48 : decode b_R_enter 48 = .ok (.getfield 22, 3) := by decide +kernel
theorem d_R_enter_51 : decode b_R_enter 51 = .ok (.bipush 12, 2) := by decide +kernel
theorem d_R_enter_53 : decode b_R_enter 53 = .ok (.iload_n 1, 1) := by decide +kernel
theorem d_R_enter_54 : decode b_R_enter 54 = .ok (.imul, 1) := by decide +kernel
theorem d_R_enter_55 : decode b_R_enter 55 = .ok (.iload_n 2, 1) := by decide +kernel
theorem d_R_enter_56 : decode b_R_enter 56 = .ok (.iadd, 1) := by decide +kernel
theorem d_R_enter_57 : decode b_R_enter 57 = .ok (.aload_n 0, 1) := by decide +kernel
theorem d_R_enter_58 : decode b_R_enter 58 = .ok (.getfield 91, 3) := by decide +kernel
theorem d_R_enter_61 : decode b_R_enter 61 = .ok (.iastore, 1) := by decide +kernel
theorem d_R_enter_62 : decode b_R_enter 62 = .ok (.aload_n 0, 1) := by decide +kernel
theorem d_R_enter_63 : decode b_R_enter 63 = .ok (.dup, 1) := by decide +kernel
theorem d_R_enter_64 : decode b_R_enter 64 = .ok (.getfield 91, 3) := by decide +kernel
theorem d_R_enter_67 : decode b_R_enter 67 = .ok (.iconst 1, 1) := by decide +kernel
theorem d_R_enter_68 : decode b_R_enter 68 = .ok (.iadd, 1) := by decide +kernel
theorem d_R_enter_69 : decode b_R_enter 69 = .ok (.putfield 91, 3) := by decide +kernel
theorem d_R_enter_72 : decode b_R_enter 72 = .ok (.aload_n 0, 1) := by decide +kernel
theorem d_R_enter_73 : decode b_R_enter 73 = .ok (.iconst 0, 1) := by decide +kernel
theorem d_R_enter_74 : decode b_R_enter 74 = .ok (.putfield 98, 3) := by decide +kernel
theorem d_R_enter_77 : decode b_R_enter 77 = .ok (.aload_n 0, 1) := by decide +kernel
theorem d_R_enter_78 : decode b_R_enter 78 = .ok (.getfield 91, 3) := by decide +kernel
theorem d_R_enter_81 : decode b_R_enter 81 = .ok (.iconst 1, 1) := by decide +kernel
theorem d_R_enter_82 : decode b_R_enter 82 = .ok (.isub, 1) := by decide +kernel
theorem d_R_enter_83 : decode b_R_enter 83 = .ok (.ireturn, 1) := by decide +kernel
theorem d_R_leave_0 : decode b_R_leave 0 = .ok (.aload_n 0, 1) := by decide +kernel
theorem d_R_leave_1 : decode b_R_leave 1 = .ok (.aload_n 0, 1) := by decide +kernel
theorem d_R_leave_2 : decode b_R_leave 2 = .ok (.iload_n 1, 1) := by decide +kernel
theorem d_R_leave_3 : decode b_R_leave 3 = .ok (.iload_n 2, 1) := by decide +kernel
theorem d_R_leave_4 : decode b_R_leave 4 = .ok (.invokevirtual 106, 3) := by decide +kernel
theorem d_R_leave_7 : decode b_R_leave 7 = .ok (.putfield 85, 3) := by decide +kernel
theorem d_R_leave_10 : decode b_R_leave 10 = .ok (.aload_n 0, 1) := by decide +kernel
theorem d_R_leave_11 : decode b_R_leave 11 = .ok (.getfield 85, 3) := by decide +kernel
theorem d_R_leave_14 : decode b_R_leave 14 = .ok (.ifCond .ne 20, 3) := by decide +kernel
theorem d_R_leave_17 : decode b_R_leave 17 = .ok (.aload_n 0, 1) := by decide +kernel
theorem d_R_leave_18 : decode b_R_leave 18 = .ok (.getfield 22, 3) := by decide +kernel
theorem d_R_leave_21 : decode b_R_leave 21 = .ok (.bipush 12, 2) := by decide +kernel
theorem d_R_leave_23 : decode b_R_leave 23 = .ok (.iload_n 1, 1) := by decide +kernel
theorem d_R_leave_24 : decode b_R_leave 24 = .ok (.imul, 1) := by decide +kernel
theorem d_R_leave_25 : decode b_R_leave 25 = .ok (.iload_n 2, 1) := by decide +kernel
theorem d_R_leave_26 : decode b_R_leave 26 = .ok (.iadd, 1) := by decide +kernel
theorem d_R_leave_27 : decode b_R_leave 27 = .ok (.iconst (-1), 1) := by decide +kernel
theorem d_R_leave_28 : decode b_R_leave 28 = .ok (.iastore, 1) := by decide +kernel
theorem d_R_leave_29 : decode b_R_leave 29 = .ok (.aload_n 0, 1) := by decide +kernel
theorem d_R_leave_30 : decode b_R_leave 30 = .ok (.iconst 0, 1) := by decide +kernel
theorem d_R_leave_31 : decode b_R_leave 31 = .ok (.putfield 98, 3) := by decide +kernel
theorem d_R_leave_34 : decode b_R_leave 34 = .ok (.return_, 1) := by decide +kernel
theorem d_R_deliver_0 : decode b_R_deliver 0 = .ok (.aload_n 0, 1) := by decide +kernel
theorem d_R_deliver_1 : decode b_R_deliver 1 = .ok (.iload_n 1, 1) := by decide +kernel
theorem d_R_deliver_2 : decode b_R_deliver 2 = .ok (.iconst 1, 1) := by decide +kernel
theorem d_R_deliver_3 : decode b_R_deliver 3 = .ok (.sipush 1000, 3) := by decide +kernel
theorem d_R_deliver_6 : decode b_R_deliver 6 = .ok (.invokestatic 94, 3) := by decide +kernel
theorem d_R_deliver_9 : decode b_R_deliver 9 = .ok (.ifCond .eq 14, 3) := by decide +kernel
theorem d_R_deliver_12 : decode b_R_deliver 12 = .ok (.iload_n 2, 1) := by decide +kernel
theorem d_R_deliver_13 : decode b_R_deliver 13 = .ok (.iconst 0, 1) := by decide +kernel
theorem d_R_deliver_14 : decode b_R_deliver 14 = .ok (.sipush 20000, 3) := by decide +kernel
theorem d_R_deliver_17 : decode b_R_deliver 17 = .ok (.invokestatic 94, 3) := by decide +kernel
theorem d_R_deliver_20 : decode b_R_deliver 20 = .ok (.ifCond .ne 7, 3) := by decide +kernel
theorem d_R_deliver_23 : decode b_R_deliver 23 = .ok (.iconst 1, 1) := by decide +kernel
theorem d_R_deliver_24 : decode b_R_deliver 24 = .ok (.goto 17, 3) := by decide +kernel
theorem d_R_deliver_27 : decode b_R_deliver 27 = .ok (.aload_n 0, 1) := by decide +kernel
theorem d_R_deliver_28 : decode b_R_deliver 28 = .ok (.getfield 110, 3) := by decide +kernel
theorem d_R_deliver_31 : decode b_R_deliver 31 = .ok (.bipush 12, 2) := by decide +kernel
theorem d_R_deliver_33 : decode b_R_deliver 33 = .ok (.if_icmp .ne 7, 3) := by decide +kernel
theorem d_R_deliver_36 : decode b_R_deliver 36 = .ok (.iconst 2, 1) := by decide +kernel
theorem d_R_deliver_37 : decode b_R_deliver 37 = .ok (.goto 4, 3) := by decide +kernel
theorem d_R_deliver_40 : decode b_R_deliver 40 = .ok (.iconst 0, 1) := by decide +kernel
theorem d_R_deliver_41 : decode b_R_deliver 41 = .ok (.putfield 85, 3) := by decide +kernel
theorem d_R_deliver_44 : decode b_R_deliver 44 = .ok (.aload_n 0, 1) := by decide +kernel
theorem d_R_deliver_45 : decode b_R_deliver 45 = .ok (.getfield 85, 3) := by decide +kernel
theorem d_R_deliver_48 : decode b_R_deliver 48 = .ok (.ifCond .ne 38, 3) := by decide +kernel
theorem d_R_deliver_51 : decode b_R_deliver 51 = .ok (.aload_n 0, 1) := by decide +kernel
theorem d_R_deliver_52 : decode b_R_deliver 52 = .ok (.getfield 31, 3) := by decide +kernel
theorem d_R_deliver_55 : decode b_R_deliver 55 = .ok (.aload_n 0, 1) := by decide +kernel
theorem d_R_deliver_56 : decode b_R_deliver 56 = .ok (.getfield 110, 3) := by decide +kernel
theorem d_R_deliver_59 : decode b_R_deliver 59 = .ok (.iload_n 1, 1) := by decide +kernel
theorem d_R_deliver_60 : decode b_R_deliver 60 = .ok (.iastore, 1) := by decide +kernel
theorem d_R_deliver_61 : decode b_R_deliver 61 = .ok (.aload_n 0, 1) := by decide +kernel
theorem d_R_deliver_62 : decode b_R_deliver 62 = .ok (.getfield 34, 3) := by decide +kernel
theorem d_R_deliver_65 : decode b_R_deliver 65 = .ok (.aload_n 0, 1) := by decide +kernel
theorem d_R_deliver_66 : decode b_R_deliver 66 = .ok (.getfield 110, 3) := by decide +kernel
theorem d_R_deliver_69 : decode b_R_deliver 69 = .ok (.iload_n 2, 1) := by decide +kernel
theorem d_R_deliver_70 : decode b_R_deliver 70 = .ok (.iastore, 1) := by decide +kernel
theorem d_R_deliver_71 : decode b_R_deliver 71 = .ok (.aload_n 0, 1) := by decide +kernel
theorem d_R_deliver_72 : decode b_R_deliver 72 = .ok (.dup, 1) := by decide +kernel
theorem d_R_deliver_73 : decode b_R_deliver 73 = .ok (.getfield 110, 3) := by decide +kernel
theorem d_R_deliver_76 : decode b_R_deliver 76 = .ok (.iconst 1, 1) := by decide +kernel
theorem d_R_deliver_77 : decode b_R_deliver 77 = .ok (.iadd, 1) := by decide +kernel
theorem d_R_deliver_78 : decode b_R_deliver 78 = .ok (.putfield 110, 3) := by decide +kernel
theorem d_R_deliver_81 : decode b_R_deliver 81 = .ok (.aload_n 0, 1) := by decide +kernel
theorem d_R_deliver_82 : decode b_R_deliver 82 = .ok (.iconst 0, 1) := by decide +kernel
theorem d_R_deliver_83 : decode b_R_deliver 83 = .ok (.putfield 98, 3) := by decide +kernel
theorem d_R_deliver_86 : decode b_R_deliver 86 = .ok (.return_, 1) := by decide +kernel
theorem d_R_allUnits_0 : decode b_R_allUnits 0 = .ok (.iconst 0, 1) := by decide +kernel
theorem d_R_allUnits_1 : decode b_R_allUnits 1 = .ok (.istore_n 1, 1) := by decide +kernel
theorem d_R_allUnits_2 : decode b_R_allUnits 2 = .ok (.iconst 0, 1) := by decide +kernel
theorem d_R_allUnits_3 : decode b_R_allUnits 3 = .ok (.istore_n 2, 1) := by decide +kernel
theorem d_R_allUnits_4 : decode b_R_allUnits 4 = .ok (.iload_n 2, 1) := by decide +kernel
theorem d_R_allUnits_5 : decode b_R_allUnits 5 = .ok (.aload_n 0, 1) := by decide +kernel
theorem d_R_allUnits_6 : decode b_R_allUnits 6 = .ok (.getfield 110, 3) := by decide +kernel
theorem d_R_allUnits_9 : decode b_R_allUnits 9 = .ok (.if_icmp .ge 18, 3) := by decide +kernel
theorem d_R_allUnits_12 : decode b_R_allUnits 12 = .ok (.iload_n 1, 1) := by decide +kernel
theorem d_R_allUnits_13 : decode b_R_allUnits 13 = .ok (.aload_n 0, 1) := by decide +kernel
theorem d_R_allUnits_14 : decode b_R_allUnits 14 = .ok (.getfield 31, 3) := by decide +kernel
theorem d_R_allUnits_17 : decode b_R_allUnits 17 = .ok (.iload_n 2, 1) := by decide +kernel
theorem d_R_allUnits_18 : decode b_R_allUnits 18 = .ok (.iaload, 1) := by decide +kernel
theorem d_R_allUnits_19 : decode b_R_allUnits 19 = .ok (.iadd, 1) := by decide +kernel
theorem d_R_allUnits_20 : decode b_R_allUnits 20 = .ok (.istore_n 1, 1) := by decide +kernel
theorem d_R_allUnits_21 : decode b_R_allUnits 21 = .ok (.iinc 2 1, 3) := by decide +kernel
theorem d_R_allUnits_24 : decode b_R_allUnits 24 = .ok (.goto (-20), 3) := by decide +kernel
theorem d_R_allUnits_27 : decode b_R_allUnits 27 = .ok (.iload_n 1, 1) := by decide +kernel
theorem d_R_allUnits_28 : decode b_R_allUnits 28 = .ok (.ireturn, 1) := by decide +kernel
theorem d_R_endStock_0 : decode b_R_endStock 0 = .ok (.aload_n 0, 1) := by decide +kernel
theorem d_R_endStock_1 : decode b_R_endStock 1 = .ok (.iload_n 1, 1) := by decide +kernel
theorem d_R_endStock_2 : decode b_R_endStock 2 = .ok (.iconst (-1), 1) := by decide +kernel
theorem d_R_endStock_3 : decode b_R_endStock 3 = .ok (.aload_n 0, 1) := by decide +kernel
theorem d_R_endStock_4 : decode b_R_endStock 4 = .ok (.invokevirtual 113, 3) := by decide +kernel
theorem d_R_endStock_7 : decode b_R_endStock 7 = .ok (.invokestatic 94, 3) := by decide +kernel
theorem d_R_endStock_10 : decode b_R_endStock 10 = .ok (.ifCond .eq 7, 3) := by decide +kernel
theorem d_R_endStock_13 : decode b_R_endStock 13 = .ok (.iconst 0, 1) := by decide +kernel
theorem d_R_endStock_14 : decode b_R_endStock 14 = .ok (.goto 4, 3) := by decide +kernel
theorem d_R_endStock_17 : decode b_R_endStock 17 = .ok (.iconst 1, 1) := by decide +kernel
theorem d_R_endStock_18 : decode b_R_endStock 18 = .ok (.putfield 85, 3) := by decide +kernel
theorem d_R_endStock_21 : decode b_R_endStock 21 = .ok (.aload_n 0, 1) := by decide +kernel
theorem d_R_endStock_22 : decode b_R_endStock 22 = .ok (.getfield 85, 3) := by decide +kernel
theorem d_R_endStock_25 : decode b_R_endStock 25 = .ok (.ifCond .ne 13, 3) := by decide +kernel
theorem d_R_endStock_28 : decode b_R_endStock 28 = .ok (.aload_n 0, 1) := by decide +kernel
theorem d_R_endStock_29 : decode b_R_endStock 29 = .ok (.iload_n 1, 1) := by decide +kernel
theorem d_R_endStock_30 : decode b_R_endStock 30 = .ok (.putfield 37, 3) := by decide +kernel
theorem d_R_endStock_33 : decode b_R_endStock 33 = .ok (.aload_n 0, 1) := by decide +kernel
theorem d_R_endStock_34 : decode b_R_endStock 34 = .ok (.iconst 0, 1) := by decide +kernel
theorem d_R_endStock_35 : decode b_R_endStock 35 = .ok (.putfield 98, 3) := by decide +kernel
theorem d_R_endStock_38 : decode b_R_endStock 38 = .ok (.return_, 1) := by decide +kernel
theorem d_R_sideCosts_0 : decode b_R_sideCosts 0 = .ok (.aload_n 0, 1) := by decide +kernel
theorem d_R_sideCosts_1 : decode b_R_sideCosts 1 = .ok (.iload_n 1, 1) := by decide +kernel
theorem d_R_sideCosts_2 : decode b_R_sideCosts 2 = .ok (.iconst 0, 1) := by decide +kernel
theorem d_R_sideCosts_3 : decode b_R_sideCosts 3 = .ok (.sipush 20000, 3) := by decide +kernel
theorem d_R_sideCosts_6 : decode b_R_sideCosts 6 = .ok (.invokestatic 94, 3) := by decide +kernel
theorem d_R_sideCosts_9 : decode b_R_sideCosts 9 = .ok (.ifCond .eq 7, 3) := by decide +kernel
theorem d_R_sideCosts_12 : decode b_R_sideCosts 12 = .ok (.iconst 0, 1) := by decide +kernel
theorem d_R_sideCosts_13 : decode b_R_sideCosts 13 = .ok (.goto 4, 3) := by decide +kernel
theorem d_R_sideCosts_16 : decode b_R_sideCosts 16 = .ok (.iconst 1, 1) := by decide +kernel
theorem d_R_sideCosts_17 : decode b_R_sideCosts 17 = .ok (.putfield 85, 3) := by decide +kernel
theorem d_R_sideCosts_20 : decode b_R_sideCosts 20 = .ok (.aload_n 0, 1) := by decide +kernel
theorem d_R_sideCosts_21 : decode b_R_sideCosts 21 = .ok (.getfield 85, 3) := by decide +kernel
theorem d_R_sideCosts_24 : decode b_R_sideCosts 24 = .ok (.ifCond .ne 13, 3) := by decide +kernel
theorem d_R_sideCosts_27 : decode b_R_sideCosts 27 = .ok (.aload_n 0, 1) := by decide +kernel
theorem d_R_sideCosts_28 : decode b_R_sideCosts 28 = .ok (.iload_n 1, 1) := by decide +kernel
theorem d_R_sideCosts_29 : decode b_R_sideCosts 29 = .ok (.putfield 117, 3) := by decide +kernel
theorem d_R_sideCosts_32 : decode b_R_sideCosts 32 = .ok (.aload_n 0, 1) := by decide +kernel
theorem d_R_sideCosts_33 : decode b_R_sideCosts 33 = .ok (.iconst 0, 1) := by decide +kernel
theorem d_R_sideCosts_34 : decode b_R_sideCosts 34 = .ok (.putfield 98, 3) := by decide +kernel
theorem d_R_sideCosts_37 : decode b_R_sideCosts 37 = .ok (.return_, 1) := by decide +kernel
theorem d_R_water_0 : decode b_R_water 0 = .ok (.aload_n 0, 1) := by decide +kernel
theorem d_R_water_1 : decode b_R_water 1 = .ok (.iload_n 1, 1) := by decide +kernel
theorem d_R_water_2 : decode b_R_water 2 = .ok (.iconst (-1), 1) := by decide +kernel
theorem d_R_water_3 : decode b_R_water 3 = .ok (.ldc 120, 2) := by decide +kernel
theorem d_R_water_5 : decode b_R_water 5 = .ok (.invokestatic 94, 3) := by decide +kernel
theorem d_R_water_8 : decode b_R_water 8 = .ok (.ifCond .eq 17, 3) := by decide +kernel
theorem d_R_water_11 : decode b_R_water 11 = .ok (.iload_n 2, 1) := by decide +kernel
theorem d_R_water_12 : decode b_R_water 12 = .ok (.iconst 0, 1) := by decide +kernel
theorem d_R_water_13 : decode b_R_water 13 = .ok (.bipush 100, 2) := by decide +kernel
theorem d_R_water_15 : decode b_R_water 15 = .ok (.invokestatic 94, 3) := by decide +kernel
theorem d_R_water_18 : decode b_R_water 18 = .ok (.ifCond .eq 7, 3) := by decide +kernel
theorem d_R_water_21 : decode b_R_water 21 = .ok (.iconst 0, 1) := by decide +kernel
theorem d_R_water_22 : decode b_R_water 22 = .ok (.goto 4, 3) := by decide +kernel
theorem d_R_water_25 : decode b_R_water 25 = .ok (.iconst 1, 1) := by decide +kernel
theorem d_R_water_26 : decode b_R_water 26 = .ok (.putfield 85, 3) := by decide +kernel
theorem d_R_water_29 : decode b_R_water 29 = .ok (.aload_n 0, 1) := by decide +kernel
theorem d_R_water_30 : decode b_R_water 30 = .ok (.getfield 85, 3) := by decide +kernel
theorem d_R_water_33 : decode b_R_water 33 = .ok (.ifCond .ne 18, 3) := by decide +kernel
theorem d_R_water_36 : decode b_R_water 36 = .ok (.aload_n 0, 1) := by decide +kernel
theorem d_R_water_37 : decode b_R_water 37 = .ok (.iload_n 1, 1) := by decide +kernel
theorem d_R_water_38 : decode b_R_water 38 = .ok (.putfield 41, 3) := by decide +kernel
theorem d_R_water_41 : decode b_R_water 41 = .ok (.aload_n 0, 1) := by decide +kernel
theorem d_R_water_42 : decode b_R_water 42 = .ok (.iload_n 2, 1) := by decide +kernel
theorem d_R_water_43 : decode b_R_water 43 = .ok (.putfield 121, 3) := by decide +kernel
theorem d_R_water_46 : decode b_R_water 46 = .ok (.aload_n 0, 1) := by decide +kernel
theorem d_R_water_47 : decode b_R_water 47 = .ok (.iconst 0, 1) := by decide +kernel
theorem d_R_water_48 : decode b_R_water 48 = .ok (.putfield 98, 3) := by decide +kernel
theorem d_R_water_51 : decode b_R_water 51 = .ok (.return_, 1) := by decide +kernel
theorem d_R_permille_0 : decode b_R_permille 0 = .ok (.aload_n 0, 1) := by decide +kernel
theorem d_R_permille_1 : decode b_R_permille 1 = .ok (.iload_n 1, 1) := by decide +kernel
theorem d_R_permille_2 : decode b_R_permille 2 = .ok (.sipush 300, 3) := by decide +kernel
theorem d_R_permille_5 : decode b_R_permille 5 = .ok (.sipush 700, 3) := by decide +kernel
theorem d_R_permille_8 : decode b_R_permille 8 = .ok (.invokestatic 94, 3) := by decide +kernel
theorem d_R_permille_11 : decode b_R_permille 11 = .ok (.ifCond .eq 7, 3) := by decide +kernel
theorem d_R_permille_14 : decode b_R_permille 14 = .ok (.iconst 0, 1) := by decide +kernel
theorem d_R_permille_15 : decode b_R_permille 15 = .ok (.goto 4, 3) := by decide +kernel
theorem d_R_permille_18 : decode b_R_permille 18 = .ok (.iconst 1, 1) := by decide +kernel
theorem d_R_permille_19 : decode b_R_permille 19 = .ok (.putfield 85, 3) := by decide +kernel
theorem d_R_permille_22 : decode b_R_permille 22 = .ok (.aload_n 0, 1) := by decide +kernel
theorem d_R_permille_23 : decode b_R_permille 23 = .ok (.getfield 85, 3) := by decide +kernel
theorem d_R_permille_26 : decode b_R_permille 26 = .ok (.ifCond .ne 13, 3) := by decide +kernel
theorem d_R_permille_29 : decode b_R_permille 29 = .ok (.aload_n 0, 1) := by decide +kernel
theorem d_R_permille_30 : decode b_R_permille 30 = .ok (.iload_n 1, 1) := by decide +kernel
theorem d_R_permille_31 : decode b_R_permille 31 = .ok (.putfield 44, 3) := by decide +kernel
theorem d_R_permille_34 : decode b_R_permille 34 = .ok (.aload_n 0, 1) := by decide +kernel
theorem d_R_permille_35 : decode b_R_permille 35 = .ok (.iconst 0, 1) := by decide +kernel
theorem d_R_permille_36 : decode b_R_permille 36 = .ok (.putfield 98, 3) := by decide +kernel
theorem d_R_permille_39 : decode b_R_permille 39 = .ok (.return_, 1) := by decide +kernel
theorem d_R_degrees_0 : decode b_R_degrees 0 = .ok (.aload_n 0, 1) := by decide +kernel
theorem d_R_degrees_1 : decode b_R_degrees 1 = .ok (.iload_n 1, 1) := by decide +kernel
theorem d_R_degrees_2 : decode b_R_degrees 2 = .ok (.iconst 0, 1) := by decide +kernel
theorem d_R_degrees_3 : decode b_R_degrees 3 = .ok (.bipush 11, 2) := by decide +kernel
theorem d_R_degrees_5 : decode b_R_degrees 5 = .ok (.invokestatic 94, 3) := by decide +kernel
theorem d_R_degrees_8 : decode b_R_degrees 8 = .ok (.ifCond .ne 7, 3) := by decide +kernel
theorem d_R_degrees_11 : decode b_R_degrees 11 = .ok (.iconst 1, 1) := by decide +kernel
theorem d_R_degrees_12 : decode b_R_degrees 12 = .ok (.goto 18, 3) := by decide +kernel
theorem d_R_degrees_15 : decode b_R_degrees 15 = .ok (.iload_n 2, 1) := by decide +kernel
theorem d_R_degrees_16 : decode b_R_degrees 16 = .ok (.iconst 0, 1) := by decide +kernel
theorem d_R_degrees_17 : decode b_R_degrees 17 = .ok (.bipush 100, 2) := by decide +kernel
theorem d_R_degrees_19 : decode b_R_degrees 19 = .ok (.invokestatic 94, 3) := by decide +kernel
theorem d_R_degrees_22 : decode b_R_degrees 22 = .ok (.ifCond .ne 7, 3) := by decide +kernel
theorem d_R_degrees_25 : decode b_R_degrees 25 = .ok (.iconst 2, 1) := by decide +kernel
theorem d_R_degrees_26 : decode b_R_degrees 26 = .ok (.goto 4, 3) := by decide +kernel
theorem d_R_degrees_29 : decode b_R_degrees 29 = .ok (.iconst 0, 1) := by decide +kernel
theorem d_R_degrees_30 : decode b_R_degrees 30 = .ok (.putfield 85, 3) := by decide +kernel
theorem d_R_degrees_33 : decode b_R_degrees 33 = .ok (.aload_n 0, 1) := by decide +kernel
theorem d_R_degrees_34 : decode b_R_degrees 34 = .ok (.getfield 85, 3) := by decide +kernel
theorem d_R_degrees_37 : decode b_R_degrees 37 = .ok (.ifCond .ne 15, 3) := by decide +kernel
theorem d_R_degrees_40 : decode b_R_degrees 40 = .ok (.aload_n 0, 1) := by decide +kernel
theorem d_R_degrees_41 : decode b_R_degrees 41 = .ok (.getfield 47, 3) := by decide +kernel
theorem d_R_degrees_44 : decode b_R_degrees 44 = .ok (.iload_n 1, 1) := by decide +kernel
theorem d_R_degrees_45 : decode b_R_degrees 45 = .ok (.iload_n 2, 1) := by decide +kernel
theorem d_R_degrees_46 : decode b_R_degrees 46 = .ok (.iastore, 1) := by decide +kernel
theorem d_R_degrees_47 : decode b_R_degrees 47 = .ok (.aload_n 0, 1) := by decide +kernel
theorem d_R_degrees_48 : decode b_R_degrees 48 = .ok (.iconst 0, 1) := by decide +kernel
theorem d_R_degrees_49 : decode b_R_degrees 49 = .ok (.putfield 98, 3) := by decide +kernel
theorem d_R_degrees_52 : decode b_R_degrees 52 = .ok (.return_, 1) := by decide +kernel
theorem d_R_prepay_0 : decode b_R_prepay 0 = .ok (.aload_n 0, 1) := by decide +kernel
theorem d_R_prepay_1 : decode b_R_prepay 1 = .ok (.aload_n 0, 1) := by decide +kernel
theorem d_R_prepay_2 : decode b_R_prepay 2 = .ok (.iload_n 1, 1) := by decide +kernel
theorem d_R_prepay_3 : decode b_R_prepay 3 = .ok (.invokevirtual 124, 3) := by decide +kernel
theorem d_R_prepay_6 : decode b_R_prepay 6 = .ok (.ifCond .ne 7, 3) := by decide +kernel
theorem d_R_prepay_9 : decode b_R_prepay 9 = .ok (.iconst 1, 1) := by decide +kernel
theorem d_R_prepay_10 : decode b_R_prepay 10 = .ok (.goto 32, 3) := by decide +kernel
theorem d_R_prepay_13 : decode b_R_prepay 13 = .ok (.iload_n 2, 1) := by decide +kernel
theorem d_R_prepay_14 : decode b_R_prepay 14 = .ok (.iconst 0, 1) := by decide +kernel
theorem d_R_prepay_15 : decode b_R_prepay 15 = .ok (.sipush 20000, 3) := by decide +kernel
theorem d_R_prepay_18 : decode b_R_prepay 18 = .ok (.invokestatic 94, 3) := by decide +kernel
theorem d_R_prepay_21 : decode b_R_prepay 21 = .ok (.ifCond .eq 16, 3) := by decide +kernel
theorem d_R_prepay_24 : decode b_R_prepay 24 = .ok (.aload_n 0, 1) := by decide +kernel
theorem d_R_prepay_25 : decode b_R_prepay 25 = .ok (.getfield 56, 3) := by decide +kernel
theorem d_R_prepay_28 : decode b_R_prepay 28 = .ok (.iload_n 1, 1) := by decide +kernel
theorem d_R_prepay_29 : decode b_R_prepay 29 = .ok (.iaload, 1) := by decide +kernel
theorem d_R_prepay_30 : decode b_R_prepay 30 = .ok (.iload_n 2, 1) := by decide +kernel
theorem d_R_prepay_31 : decode b_R_prepay 31 = .ok (.iadd, 1) := by decide +kernel
theorem d_R_prepay_32 : decode b_R_prepay 32 = .ok (.ldc 127, 2) := by decide +kernel
theorem d_R_prepay_34 : decode b_R_prepay 34 = .ok (.if_icmp .le 7, 3) := by decide +kernel
theorem d_R_prepay_37 : decode b_R_prepay 37 = .ok (.iconst 2, 1) := by decide +kernel
theorem d_R_prepay_38 : decode b_R_prepay 38 = .ok (.goto 4, 3) := by decide +kernel
theorem d_R_prepay_41 : decode b_R_prepay 41 = .ok (.iconst 0, 1) := by decide +kernel
theorem d_R_prepay_42 : decode b_R_prepay 42 = .ok (.putfield 85, 3) := by decide +kernel
theorem d_R_prepay_45 : decode b_R_prepay 45 = .ok (.aload_n 0, 1) := by decide +kernel
theorem d_R_prepay_46 : decode b_R_prepay 46 = .ok (.getfield 85, 3) := by decide +kernel
theorem d_R_prepay_49 : decode b_R_prepay 49 = .ok (.ifCond .ne 17, 3) := by decide +kernel
theorem d_R_prepay_52 : decode b_R_prepay 52 = .ok (.aload_n 0, 1) := by decide +kernel
theorem d_R_prepay_53 : decode b_R_prepay 53 = .ok (.getfield 56, 3) := by decide +kernel
theorem d_R_prepay_56 : decode b_R_prepay 56 = .ok (.iload_n 1, 1) := by decide +kernel
theorem d_R_prepay_57 : decode b_R_prepay 57 = .ok (.aload_n 0, 1) := by decide +kernel
theorem d_R_prepay_58 : decode b_R_prepay 58 = .ok (.getfield 56, 3) := by decide +kernel
theorem d_R_prepay_61 : decode b_R_prepay 61 = .ok (.iload_n 1, 1) := by decide +kernel
theorem d_R_prepay_62 : decode b_R_prepay 62 = .ok (.iaload, 1) := by decide +kernel
theorem d_R_prepay_63 : decode b_R_prepay 63 = .ok (.iload_n 2, 1) := by decide +kernel
theorem d_R_prepay_64 : decode b_R_prepay 64 = .ok (.iadd, 1) := by decide +kernel
theorem d_R_prepay_65 : decode b_R_prepay 65 = .ok (.iastore, 1) := by decide +kernel
theorem d_R_prepay_66 : decode b_R_prepay 66 = .ok (.return_, 1) := by decide +kernel
theorem d_R_paid_0 : decode b_R_paid 0 = .ok (.aload_n 0, 1) := by decide +kernel
theorem d_R_paid_1 : decode b_R_paid 1 = .ok (.aload_n 0, 1) := by decide +kernel
theorem d_R_paid_2 : decode b_R_paid 2 = .ok (.iload_n 1, 1) := by decide +kernel
theorem d_R_paid_3 : decode b_R_paid 3 = .ok (.invokevirtual 124, 3) := by decide +kernel
theorem d_R_paid_6 : decode b_R_paid 6 = .ok (.ifCond .eq 7, 3) := by decide +kernel
theorem d_R_paid_9 : decode b_R_paid 9 = .ok (.iconst 0, 1) := by decide +kernel
theorem d_R_paid_10 : decode b_R_paid 10 = .ok (.goto 4, 3) := by decide +kernel
theorem d_R_paid_13 : decode b_R_paid 13 = .ok (.iconst 1, 1) := by decide +kernel
theorem d_R_paid_14 : decode b_R_paid 14 = .ok (.putfield 85, 3) := by decide +kernel
theorem d_R_paid_17 : decode b_R_paid 17 = .ok (.aload_n 0, 1) := by decide +kernel
theorem d_R_paid_18 : decode b_R_paid 18 = .ok (.getfield 85, 3) := by decide +kernel
theorem d_R_paid_21 : decode b_R_paid 21 = .ok (.ifCond .le 7, 3) := by decide +kernel
theorem d_R_paid_24 : decode b_R_paid 24 = .ok (.iconst 0, 1) := by decide +kernel
theorem d_R_paid_25 : decode b_R_paid 25 = .ok (.goto 9, 3) := by decide +kernel
theorem d_R_paid_28 : decode b_R_paid 28 = .ok (.aload_n 0, 1) := by decide +kernel
theorem d_R_paid_29 : decode b_R_paid 29 = .ok (.getfield 56, 3) := by decide +kernel
theorem d_R_paid_32 : decode b_R_paid 32 = .ok (.iload_n 1, 1) := by decide +kernel
theorem d_R_paid_33 : decode b_R_paid 33 = .ok (.iaload, 1) := by decide +kernel
theorem d_R_paid_34 : decode b_R_paid 34 = .ok (.ireturn, 1) := by decide +kernel
theorem d_R_isRead_0 : decode b_R_isRead 0 = .ok (.aload_n 0, 1) := by decide +kernel
theorem d_R_isRead_1 : decode b_R_isRead 1 = .ok (.getfield 19, 3) := by decide +kernel
theorem d_R_isRead_4 : decode b_R_isRead 4 = .ok (.bipush 13, 2) := by decide +kernel
theorem d_R_isRead_6 : decode b_R_isRead 6 = .ok (.iload_n 1, 1) := by decide +kernel
theorem d_R_isRead_7 : decode b_R_isRead 7 = .ok (.imul, 1) := by decide +kernel
theorem d_R_isRead_8 : decode b_R_isRead 8 = .ok (.iaload, 1) := by decide +kernel
theorem d_R_isRead_9 : decode b_R_isRead 9 = .ok (.istore_n 2, 1) := by decide +kernel
theorem d_R_isRead_10 : decode b_R_isRead 10 = .ok (.iload_n 2, 1) := by decide +kernel
theorem d_R_isRead_11 : decode b_R_isRead 11 = .ok (.ifCond .lt 22, 3) := by decide +kernel
theorem d_R_isRead_14 : decode b_R_isRead 14 = .ok (.aload_n 0, 1) := by decide +kernel
theorem d_R_isRead_15 : decode b_R_isRead 15 = .ok (.getfield 19, 3) := by decide +kernel
theorem d_R_isRead_18 : decode b_R_isRead 18 = .ok (.bipush 13, 2) := by decide +kernel
theorem d_R_isRead_20 : decode b_R_isRead 20 = .ok (.iload_n 1, 1) := by decide +kernel
theorem d_R_isRead_21 : decode b_R_isRead 21 = .ok (.imul, 1) := by decide +kernel
theorem d_R_isRead_22 : decode b_R_isRead 22 = .ok (.bipush 12, 2) := by decide +kernel
theorem d_R_isRead_24 : decode b_R_isRead 24 = .ok (.iadd, 1) := by decide +kernel
theorem d_R_isRead_25 : decode b_R_isRead 25 = .ok (.iaload, 1) := by decide +kernel
theorem d_R_isRead_26 : decode b_R_isRead 26 = .ok (.ifCond .lt 7, 3) := by decide +kernel
theorem d_R_isRead_29 : decode b_R_isRead 29 = .ok (.iconst 1, 1) := by decide +kernel
theorem d_R_isRead_30 : decode b_R_isRead 30 = .ok (.goto 4, 3) := by decide +kernel
theorem d_R_isRead_33 : decode b_R_isRead 33 = .ok (.iconst 0, 1) := by decide +kernel
theorem d_R_isRead_34 : decode b_R_isRead 34 = .ok (.istore_n 3, 1) := by decide +kernel
theorem d_R_isRead_35 : decode b_R_isRead 35 = .ok (.iconst 1, 1) := by decide +kernel
theorem d_R_isRead_36 : decode b_R_isRead 36 = .ok (.istore 4, 2) := by decide +kernel
theorem d_R_isRead_38 : decode b_R_isRead 38 = .ok (.iload 4, 2) := by decide +kernel
theorem d_R_isRead_40 : decode b_R_isRead 40 = .ok (.bipush 13, 2) := by decide +kernel
theorem d_R_isRead_42 : decode b_R_isRead 42 = .ok (.if_icmp .ge 56, 3) := by decide +kernel
theorem d_R_isRead_45 : decode b_R_isRead 45 = .ok (.aload_n 0, 1) := by decide +kernel
theorem d_R_isRead_46 : decode b_R_isRead 46 = .ok (.getfield 19, 3) := by decide +kernel
theorem d_R_isRead_49 : decode b_R_isRead 49 = .ok (.bipush 13, 2) := by decide +kernel
theorem d_R_isRead_51 : decode b_R_isRead 51 = .ok (.iload_n 1, 1) := by decide +kernel
theorem d_R_isRead_52 : decode b_R_isRead 52 = .ok (.imul, 1) := by decide +kernel
theorem d_R_isRead_53 : decode b_R_isRead 53 = .ok (.iload 4, 2) := by decide +kernel
theorem d_R_isRead_55 : decode b_R_isRead 55 = .ok (.iadd, 1) := by decide +kernel
theorem d_R_isRead_56 : decode b_R_isRead 56 = .ok (.iaload, 1) := by decide +kernel
theorem d_R_isRead_57 : decode b_R_isRead 57 = .ok (.istore 5, 2) := by decide +kernel
theorem d_R_isRead_59 : decode b_R_isRead 59 = .ok (.iload_n 3, 1) := by decide +kernel
theorem d_R_isRead_60 : decode b_R_isRead 60 = .ok (.ifCond .eq 18, 3) := by decide +kernel
theorem d_R_isRead_63 : decode b_R_isRead 63 = .ok (.iload 5, 2) := by decide +kernel
theorem d_R_isRead_65 : decode b_R_isRead 65 = .ok (.ifCond .lt 9, 3) := by decide +kernel
theorem d_R_isRead_68 : decode b_R_isRead 68 = .ok (.iload 5, 2) := by decide +kernel
theorem d_R_isRead_70 : decode b_R_isRead 70 = .ok (.iload_n 2, 1) := by decide +kernel
theorem d_R_isRead_71 : decode b_R_isRead 71 = .ok (.if_icmp .lt 7, 3) := by decide +kernel
theorem d_R_isRead_74 : decode b_R_isRead 74 = .ok (.iconst 1, 1) := by decide +kernel
theorem d_R_isRead_75 : decode b_R_isRead 75 = .ok (.goto 4, 3) := by decide +kernel
theorem d_R_isRead_78 : decode b_R_isRead 78 = .ok (.iconst 0, 1) := by decide +kernel
theorem d_R_isRead_79 : decode b_R_isRead 79 = .ok (.istore_n 3, 1) := by decide +kernel
theorem d_R_isRead_80 : decode b_R_isRead 80 = .ok (.iload 5, 2) := by decide +kernel
theorem d_R_isRead_82 : decode b_R_isRead 82 = .ok (.ifCond .ge 7, 3) := by decide +kernel
theorem d_R_isRead_85 : decode b_R_isRead 85 = .ok (.iload_n 2, 1) := by decide +kernel
theorem d_R_isRead_86 : decode b_R_isRead 86 = .ok (.goto 5, 3) := by decide +kernel
theorem d_R_isRead_89 : decode b_R_isRead 89 = .ok (.iload 5, 2) := by decide +kernel
theorem d_R_isRead_91 : decode b_R_isRead 91 = .ok (.istore_n 2, 1) := by decide +kernel
theorem d_R_isRead_92 : decode b_R_isRead 92 = .ok (.iinc 4 1, 3) := by decide +kernel
theorem d_R_isRead_95 : decode b_R_isRead 95 = .ok (.goto (-57), 3) := by decide +kernel
theorem d_R_isRead_98 : decode b_R_isRead 98 = .ok (.iload_n 3, 1) := by decide +kernel
theorem d_R_isRead_99 : decode b_R_isRead 99 = .ok (.ireturn, 1) := by decide +kernel
theorem d_R_measured_0 : decode b_R_measured 0 = .ok (.aload_n 0, 1) := by decide +kernel
theorem d_R_measured_1 : decode b_R_measured 1 = .ok (.getfield 16, 3) := by decide +kernel
theorem d_R_measured_4 : decode b_R_measured 4 = .ok (.iload_n 1, 1) := by decide +kernel
theorem d_R_measured_5 : decode b_R_measured 5 = .ok (.iaload, 1) := by decide +kernel
theorem d_R_measured_6 : decode b_R_measured 6 = .ok (.aload_n 0, 1) := by decide +kernel
theorem d_R_measured_7 : decode b_R_measured 7 = .ok (.getfield 19, 3) := by decide +kernel
theorem d_R_measured_10 : decode b_R_measured 10 = .ok (.bipush 13, 2) := by decide +kernel
theorem d_R_measured_12 : decode b_R_measured 12 = .ok (.iload_n 1, 1) := by decide +kernel
theorem d_R_measured_13 : decode b_R_measured 13 = .ok (.imul, 1) := by decide +kernel
theorem d_R_measured_14 : decode b_R_measured 14 = .ok (.bipush 12, 2) := by decide +kernel
theorem d_R_measured_16 : decode b_R_measured 16 = .ok (.iadd, 1) := by decide +kernel
theorem d_R_measured_17 : decode b_R_measured 17 = .ok (.iaload, 1) := by decide +kernel
theorem d_R_measured_18 : decode b_R_measured 18 = .ok (.aload_n 0, 1) := by decide +kernel
theorem d_R_measured_19 : decode b_R_measured 19 = .ok (.getfield 19, 3) := by decide +kernel
theorem d_R_measured_22 : decode b_R_measured 22 = .ok (.bipush 13, 2) := by decide +kernel
theorem d_R_measured_24 : decode b_R_measured 24 = .ok (.iload_n 1, 1) := by decide +kernel
theorem d_R_measured_25 : decode b_R_measured 25 = .ok (.imul, 1) := by decide +kernel
theorem d_R_measured_26 : decode b_R_measured 26 = .ok (.iaload, 1) := by decide +kernel
theorem d_R_measured_27 : decode b_R_measured 27 = .ok (.isub, 1) := by decide +kernel
theorem d_R_measured_28 : decode b_R_measured 28 = .ok (.imul, 1) := by decide +kernel
theorem d_R_measured_29 : decode b_R_measured 29 = .ok (.ireturn, 1) := by decide +kernel
theorem d_R_kindOf_0 : decode b_R_kindOf 0 = .ok (.aload_n 0, 1) := by decide +kernel
theorem d_R_kindOf_1 : decode b_R_kindOf 1 = .ok (.iload_n 1, 1) := by decide +kernel
theorem d_R_kindOf_2 : decode b_R_kindOf 2 = .ok (.invokevirtual 128, 3) := by decide +kernel
theorem d_R_kindOf_5 : decode b_R_kindOf 5 = .ok (.ifCond .eq 5, 3) := by decide +kernel
theorem d_R_kindOf_8 : decode b_R_kindOf 8 = .ok (.iconst 0, 1) := by decide +kernel
theorem d_R_kindOf_9 : decode b_R_kindOf 9 = .ok (.ireturn, 1) := by decide +kernel
theorem d_R_kindOf_10 : decode b_R_kindOf 10 = .ok (.aload_n 0, 1) := by decide +kernel
theorem d_R_kindOf_11 : decode b_R_kindOf 11 = .ok (.getfield 28, 3) := by decide +kernel
theorem d_R_kindOf_14 : decode b_R_kindOf 14 = .ok (.iload_n 1, 1) := by decide +kernel
theorem d_R_kindOf_15 : decode b_R_kindOf 15 = .ok (.iaload, 1) := by decide +kernel
theorem d_R_kindOf_16 : decode b_R_kindOf 16 = .ok (.ifCond .lt 21, 3) := by decide +kernel
theorem d_R_kindOf_19 : decode b_R_kindOf 19 = .ok (.aload_n 0, 1) := by decide +kernel
theorem d_R_kindOf_20 : decode b_R_kindOf 20 = .ok (.getfield 131, 3) := by decide +kernel
theorem d_R_kindOf_23 : decode b_R_kindOf 23 = .ok (.ifCond .le 14, 3) := by decide +kernel
theorem d_R_kindOf_26 : decode b_R_kindOf 26 = .ok (.aload_n 0, 1) := by decide +kernel
theorem d_R_kindOf_27 : decode b_R_kindOf 27 = .ok (.getfield 134, 3) := by decide +kernel
theorem d_R_kindOf_30 : decode b_R_kindOf 30 = .ok (.ifCond .le 7, 3) := by decide +kernel
theorem d_R_kindOf_33 : decode b_R_kindOf 33 = .ok (.iconst 1, 1) := by decide +kernel
theorem d_R_kindOf_34 : decode b_R_kindOf 34 = .ok (.goto 4, 3) := by decide +kernel
theorem d_R_kindOf_37 : decode b_R_kindOf 37 = .ok (.iconst 0, 1) := by decide +kernel
theorem d_R_kindOf_38 : decode b_R_kindOf 38 = .ok (.istore_n 2, 1) := by decide +kernel
theorem d_R_kindOf_39 : decode b_R_kindOf 39 = .ok (.iload_n 2, 1) := by decide +kernel
theorem d_R_kindOf_40 : decode b_R_kindOf 40 = .ok (.ifCond .eq 7, 3) := by decide +kernel
theorem d_R_kindOf_43 : decode b_R_kindOf 43 = .ok (.iconst 1, 1) := by decide +kernel
theorem d_R_kindOf_44 : decode b_R_kindOf 44 = .ok (.goto 15, 3) := by decide +kernel
theorem d_R_kindOf_47 : decode b_R_kindOf 47 = .ok (.aload_n 0, 1) := by decide +kernel
theorem d_R_kindOf_48 : decode b_R_kindOf 48 = .ok (.getfield 137, 3) := by decide +kernel
theorem d_R_kindOf_51 : decode b_R_kindOf 51 = .ok (.ifCond .le 7, 3) := by decide +kernel
theorem d_R_kindOf_54 : decode b_R_kindOf 54 = .ok (.iconst 2, 1) := by decide +kernel
theorem d_R_kindOf_55 : decode b_R_kindOf 55 = .ok (.goto 4, 3) := by decide +kernel
theorem d_R_kindOf_58 : decode b_R_kindOf 58 = .ok (.iconst 3, 1) := by decide +kernel
theorem d_R_kindOf_59 : decode b_R_kindOf 59 = .ok (.ireturn, 1) := by decide +kernel
theorem d_R_look_0 : decode b_R_look 0 = .ok (.aload_n 0, 1) := by decide +kernel
theorem d_R_look_1 : decode b_R_look 1 = .ok (.iconst 0, 1) := by decide +kernel
theorem d_R_look_2 : decode b_R_look 2 = .ok (.putfield 140, 3) := by decide +kernel
theorem d_R_look_5 : decode b_R_look 5 = .ok (.aload_n 0, 1) := by decide +kernel
theorem d_R_look_6 : decode b_R_look 6 = .ok (.iconst 0, 1) := by decide +kernel
theorem d_R_look_7 : decode b_R_look 7 = .ok (.putfield 143, 3) := by decide +kernel
theorem d_R_look_10 : decode b_R_look 10 = .ok (.aload_n 0, 1) := by decide +kernel
theorem d_R_look_11 : decode b_R_look 11 = .ok (.iconst 0, 1) := by decide +kernel
theorem d_R_look_12 : decode b_R_look 12 = .ok (.putfield 137, 3) := by decide +kernel
theorem d_R_look_15 : decode b_R_look 15 = .ok (.aload_n 0, 1) := by decide +kernel
theorem d_R_look_16 : decode b_R_look 16 = .ok (.iconst 0, 1) := by decide +kernel
theorem d_R_look_17 : decode b_R_look 17 = .ok (.putfield 131, 3) := by decide +kernel
theorem d_R_look_20 : decode b_R_look 20 = .ok (.aload_n 0, 1) := by decide +kernel
theorem d_R_look_21 : decode b_R_look 21 = .ok (.iconst 0, 1) := by decide +kernel
theorem d_R_look_22 : decode b_R_look 22 = .ok (.putfield 134, 3) := by decide +kernel
theorem d_R_look_25 : decode b_R_look 25 = .ok (.iconst 0, 1) := by decide +kernel
theorem d_R_look_26 : decode b_R_look 26 = .ok (.istore_n 1, 1) := by decide +kernel
theorem d_R_look_27 : decode b_R_look 27 = .ok (.iload_n 1, 1) := by decide +kernel
theorem d_R_look_28 : decode b_R_look 28 = .ok (.aload_n 0, 1) := by decide +kernel
theorem d_R_look_29 : decode b_R_look 29 = .ok (.getfield 88, 3) := by decide +kernel
theorem d_R_look_32 : decode b_R_look 32 = .ok (.if_icmp .ge 117, 3) := by decide +kernel
theorem d_R_look_35 : decode b_R_look 35 = .ok (.aload_n 0, 1) := by decide +kernel
theorem d_R_look_36 : decode b_R_look 36 = .ok (.iload_n 1, 1) := by decide +kernel
theorem d_R_look_37 : decode b_R_look 37 = .ok (.invokevirtual 128, 3) := by decide +kernel
theorem d_R_look_40 : decode b_R_look 40 = .ok (.ifCond .eq 103, 3) := by decide +kernel
theorem d_R_look_43 : decode b_R_look 43 = .ok (.aload_n 0, 1) := by decide +kernel
theorem d_R_look_44 : decode b_R_look 44 = .ok (.dup, 1) := by decide +kernel
theorem d_R_look_45 : decode b_R_look 45 = .ok (.getfield 137, 3) := by decide +kernel
theorem d_R_look_48 : decode b_R_look 48 = .ok (.iconst 1, 1) := by decide +kernel
theorem d_R_look_49 : decode b_R_look 49 = .ok (.iadd, 1) := by decide +kernel
theorem d_R_look_50 : decode b_R_look 50 = .ok (.putfield 137, 3) := by decide +kernel
theorem d_R_look_53 : decode b_R_look 53 = .ok (.aload_n 0, 1) := by decide +kernel
theorem d_R_look_54 : decode b_R_look 54 = .ok (.aload_n 0, 1) := by decide +kernel
theorem d_R_look_55 : decode b_R_look 55 = .ok (.getfield 143, 3) := by decide +kernel
theorem d_R_look_58 : decode b_R_look 58 = .ok (.aload_n 0, 1) := by decide +kernel
theorem d_R_look_59 : decode b_R_look 59 = .ok (.getfield 7, 3) := by decide +kernel
theorem d_R_look_62 : decode b_R_look 62 = .ok (.iload_n 1, 1) := by decide +kernel
theorem d_R_look_63 : decode b_R_look 63 = .ok (.iaload, 1) := by decide +kernel
theorem d_R_look_64 : decode b_R_look 64 = .ok (.iadd, 1) := by decide +kernel
theorem d_R_look_65 : decode b_R_look 65 = .ok (.putfield 143, 3) := by decide +kernel
theorem d_R_look_68 : decode b_R_look 68 = .ok (.aload_n 0, 1) := by decide +kernel
theorem d_R_look_69 : decode b_R_look 69 = .ok (.aload_n 0, 1) := by decide +kernel
theorem d_R_look_70 : decode b_R_look 70 = .ok (.getfield 140, 3) := by decide +kernel
theorem d_R_look_73 : decode b_R_look 73 = .ok (.aload_n 0, 1) := by decide +kernel
theorem d_R_look_74 : decode b_R_look 74 = .ok (.iload_n 1, 1) := by decide +kernel
theorem d_R_look_75 : decode b_R_look 75 = .ok (.invokevirtual 146, 3) := by decide +kernel
theorem d_R_look_78 : decode b_R_look 78 = .ok (.iadd, 1) := by decide +kernel
theorem d_R_look_79 : decode b_R_look 79 = .ok (.putfield 140, 3) := by decide +kernel
theorem d_R_look_82 : decode b_R_look 82 = .ok (.aload_n 0, 1) := by decide +kernel
theorem d_R_look_83 : decode b_R_look 83 = .ok (.aload_n 0, 1) := by decide +kernel
theorem d_R_look_84 : decode b_R_look 84 = .ok (.getfield 28, 3) := by decide +kernel
theorem d_R_look_87 : decode b_R_look 87 = .ok (.iload_n 1, 1) := by decide +kernel
theorem d_R_look_88 : decode b_R_look 88 = .ok (.iaload, 1) := by decide +kernel
theorem d_R_look_89 : decode b_R_look 89 = .ok (.ifCond .ge 10, 3) := by decide +kernel
theorem d_R_look_92 : decode b_R_look 92 = .ok (.aload_n 0, 1) := by decide +kernel
theorem d_R_look_93 : decode b_R_look 93 = .ok (.getfield 131, 3) := by decide +kernel
theorem d_R_look_96 : decode b_R_look 96 = .ok (.goto 14, 3) := by decide +kernel
theorem d_R_look_99 : decode b_R_look 99 = .ok (.aload_n 0, 1) := by decide +kernel
theorem d_R_look_100 : decode b_R_look 100 = .ok (.getfield 131, 3) := by decide +kernel
theorem d_R_look_103 : decode b_R_look 103 = .ok (.aload_n 0, 1) := by decide +kernel
theorem d_R_look_104 : decode b_R_look 104 = .ok (.getfield 28, 3) := by decide +kernel
theorem d_R_look_107 : decode b_R_look 107 = .ok (.iload_n 1, 1) := by decide +kernel
theorem d_R_look_108 : decode b_R_look 108 = .ok (.iaload, 1) := by decide +kernel
theorem d_R_look_109 : decode b_R_look 109 = .ok (.iadd, 1) := by decide +kernel
theorem d_R_look_110 : decode b_R_look 110 = .ok (.putfield 131, 3) := by decide +kernel
theorem d_R_look_113 : decode b_R_look 113 = .ok (.aload_n 0, 1) := by decide +kernel
theorem d_R_look_114 : decode b_R_look 114 = .ok (.aload_n 0, 1) := by decide +kernel
theorem d_R_look_115 : decode b_R_look 115 = .ok (.getfield 28, 3) := by decide +kernel
theorem d_R_look_118 : decode b_R_look 118 = .ok (.iload_n 1, 1) := by decide +kernel
theorem d_R_look_119 : decode b_R_look 119 = .ok (.iaload, 1) := by decide +kernel
theorem d_R_look_120 : decode b_R_look 120 = .ok (.ifCond .ge 10, 3) := by decide +kernel
theorem d_R_look_123 : decode b_R_look 123 = .ok (.aload_n 0, 1) := by decide +kernel
theorem d_R_look_124 : decode b_R_look 124 = .ok (.getfield 134, 3) := by decide +kernel
theorem d_R_look_127 : decode b_R_look 127 = .ok (.goto 13, 3) := by decide +kernel
theorem d_R_look_130 : decode b_R_look 130 = .ok (.aload_n 0, 1) := by decide +kernel
theorem d_R_look_131 : decode b_R_look 131 = .ok (.getfield 134, 3) := by decide +kernel
theorem d_R_look_134 : decode b_R_look 134 = .ok (.aload_n 0, 1) := by decide +kernel
theorem d_R_look_135 : decode b_R_look 135 = .ok (.iload_n 1, 1) := by decide +kernel
theorem d_R_look_136 : decode b_R_look 136 = .ok (.invokevirtual 146, 3) := by decide +kernel
theorem d_R_look_139 : decode b_R_look 139 = .ok (.iadd, 1) := by decide +kernel
