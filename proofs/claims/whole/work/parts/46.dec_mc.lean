theorem d_M_fits_0 : decode b_M_fits 0 = .ok (.aload_n 0, 1) := by decide +kernel
theorem d_M_fits_1 : decode b_M_fits 1 = .ok (.getfield 23, 3) := by decide +kernel
theorem d_M_fits_4 : decode b_M_fits 4 = .ok (.iload_n 1, 1) := by decide +kernel
theorem d_M_fits_5 : decode b_M_fits 5 = .ok (.iconst 1, 1) := by decide +kernel
theorem d_M_fits_6 : decode b_M_fits 6 = .ok (.iadd, 1) := by decide +kernel
theorem d_M_fits_7 : decode b_M_fits 7 = .ok (.iaload, 1) := by decide +kernel
theorem d_M_fits_8 : decode b_M_fits 8 = .ok (.aload_n 0, 1) := by decide +kernel
theorem d_M_fits_9 : decode b_M_fits 9 = .ok (.getfield 23, 3) := by decide +kernel
theorem d_M_fits_12 : decode b_M_fits 12 = .ok (.iload_n 1, 1) := by decide +kernel
theorem d_M_fits_13 : decode b_M_fits 13 = .ok (.iaload, 1) := by decide +kernel
theorem d_M_fits_14 : decode b_M_fits 14 = .ok (.isub, 1) := by decide +kernel
theorem d_M_fits_15 : decode b_M_fits 15 = .ok (.istore_n 3, 1) := by decide +kernel
theorem d_M_fits_16 : decode b_M_fits 16 = .ok (.iload_n 2, 1) := by decide +kernel
theorem d_M_fits_17 : decode b_M_fits 17 = .ok (.iload_n 3, 1) := by decide +kernel
theorem d_M_fits_18 : decode b_M_fits 18 = .ok (.iadd, 1) := by decide +kernel
theorem d_M_fits_19 : decode b_M_fits 19 = .ok (.aload_n 0, 1) := by decide +kernel
theorem d_M_fits_20 : decode b_M_fits 20 = .ok (.getfield 150, 3) := by decide +kernel
theorem d_M_fits_23 : decode b_M_fits 23 = .ok (.if_icmp .gt 35, 3) := by decide +kernel
theorem d_M_fits_26 : decode b_M_fits 26 = .ok (.aload_n 0, 1) := by decide +kernel
theorem d_M_fits_27 : decode b_M_fits 27 = .ok (.getfield 29, 3) := by decide +kernel
theorem d_M_fits_30 : decode b_M_fits 30 = .ok (.iload_n 1, 1) := by decide +kernel
theorem d_M_fits_31 : decode b_M_fits 31 = .ok (.baload, 1) := by decide +kernel
theorem d_M_fits_32 : decode b_M_fits 32 = .ok (.ifCond .eq 7, 3) := by decide +kernel
theorem d_M_fits_35 : decode b_M_fits 35 = .ok (.iload_n 2, 1) := by decide +kernel
theorem d_M_fits_36 : decode b_M_fits 36 = .ok (.ifCond .gt 22, 3) := by decide +kernel
theorem d_M_fits_39 : decode b_M_fits 39 = .ok (.aload_n 0, 1) := by decide +kernel
theorem d_M_fits_40 : decode b_M_fits 40 = .ok (.getfield 33, 3) := by decide +kernel
theorem d_M_fits_43 : decode b_M_fits 43 = .ok (.iload_n 1, 1) := by decide +kernel
theorem d_M_fits_44 : decode b_M_fits 44 = .ok (.baload, 1) := by decide +kernel
theorem d_M_fits_45 : decode b_M_fits 45 = .ok (.ifCond .eq 15, 3) := by decide +kernel
theorem d_M_fits_48 : decode b_M_fits 48 = .ok (.iload_n 2, 1) := by decide +kernel
theorem d_M_fits_49 : decode b_M_fits 49 = .ok (.iload_n 3, 1) := by decide +kernel
theorem d_M_fits_50 : decode b_M_fits 50 = .ok (.iadd, 1) := by decide +kernel
theorem d_M_fits_51 : decode b_M_fits 51 = .ok (.aload_n 0, 1) := by decide +kernel
theorem d_M_fits_52 : decode b_M_fits 52 = .ok (.getfield 150, 3) := by decide +kernel
theorem d_M_fits_55 : decode b_M_fits 55 = .ok (.if_icmp .ge 5, 3) := by decide +kernel
theorem d_M_fits_58 : decode b_M_fits 58 = .ok (.iconst 0, 1) := by decide +kernel
theorem d_M_fits_59 : decode b_M_fits 59 = .ok (.ireturn, 1) := by decide +kernel
theorem d_M_fits_60 : decode b_M_fits 60 = .ok (.iconst 1, 1) := by decide +kernel
theorem d_M_fits_61 : decode b_M_fits 61 = .ok (.istore 4, 2) := by decide +kernel
theorem d_M_fits_63 : decode b_M_fits 63 = .ok (.iconst 0, 1) := by decide +kernel
theorem d_M_fits_64 : decode b_M_fits 64 = .ok (.istore 5, 2) := by decide +kernel
theorem d_M_fits_66 : decode b_M_fits 66 = .ok (.iload 5, 2) := by decide +kernel
theorem d_M_fits_68 : decode b_M_fits 68 = .ok (.iload_n 3, 1) := by decide +kernel
theorem d_M_fits_69 : decode b_M_fits 69 = .ok (.if_icmp .ge 47, 3) := by decide +kernel
theorem d_M_fits_72 : decode b_M_fits 72 = .ok (.iload 4, 2) := by decide +kernel
theorem d_M_fits_74 : decode b_M_fits 74 = .ok (.ifCond .eq 42, 3) := by decide +kernel
theorem d_M_fits_77 : decode b_M_fits 77 = .ok (.aload_n 0, 1) := by decide +kernel
theorem d_M_fits_78 : decode b_M_fits 78 = .ok (.getfield 36, 3) := by decide +kernel
theorem d_M_fits_81 : decode b_M_fits 81 = .ok (.aload_n 0, 1) := by decide +kernel
theorem d_M_fits_82 : decode b_M_fits 82 = .ok (.getfield 23, 3) := by decide +kernel
theorem d_M_fits_85 : decode b_M_fits 85 = .ok (.iload_n 1, 1) := by decide +kernel
theorem d_M_fits_86 : decode b_M_fits 86 = .ok (.iaload, 1) := by decide +kernel
theorem d_M_fits_87 : decode b_M_fits 87 = .ok (.iload 5, 2) := by decide +kernel
theorem d_M_fits_89 : decode b_M_fits 89 = .ok (.iadd, 1) := by decide +kernel
theorem d_M_fits_90 : decode b_M_fits 90 = .ok (.iaload, 1) := by decide +kernel
theorem d_M_fits_91 : decode b_M_fits 91 = .ok (.aload_n 0, 1) := by decide +kernel
theorem d_M_fits_92 : decode b_M_fits 92 = .ok (.getfield 60, 3) := by decide +kernel
theorem d_M_fits_95 : decode b_M_fits 95 = .ok (.iload_n 2, 1) := by decide +kernel
theorem d_M_fits_96 : decode b_M_fits 96 = .ok (.iload 5, 2) := by decide +kernel
theorem d_M_fits_98 : decode b_M_fits 98 = .ok (.iadd, 1) := by decide +kernel
theorem d_M_fits_99 : decode b_M_fits 99 = .ok (.iaload, 1) := by decide +kernel
theorem d_M_fits_100 : decode b_M_fits 100 = .ok (.if_icmp .ne 7, 3) := by decide +kernel
theorem d_M_fits_103 : decode b_M_fits 103 = .ok (.iconst 1, 1) := by decide +kernel
theorem d_M_fits_104 : decode b_M_fits 104 = .ok (.goto 4, 3) := by decide +kernel
theorem d_M_fits_107 : decode b_M_fits 107 = .ok (.iconst 0, 1) := by decide +kernel
theorem d_M_fits_108 : decode b_M_fits 108 = .ok (.istore 4, 2) := by decide +kernel
theorem d_M_fits_110 : decode b_M_fits 110 = .ok (.iinc 5 1, 3) := by decide +kernel
theorem d_M_fits_113 : decode b_M_fits 113 = .ok (.goto (-47), 3) := by decide +kernel
theorem d_M_fits_116 : decode b_M_fits 116 = .ok (.iload 4, 2) := by decide +kernel
theorem d_M_fits_118 : decode b_M_fits 118 = .ok (.ireturn, 1) := by decide +kernel
theorem d_M_find_0 : decode b_M_find 0 = .ok (.aload_n 0, 1) := by decide +kernel
theorem d_M_find_1 : decode b_M_find 1 = .ok (.aload_n 0, 1) := by decide +kernel
theorem d_M_find_2 : decode b_M_find 2 = .ok (.getfield 60, 3) := by decide +kernel
theorem d_M_find_5 : decode b_M_find 5 = .ok (.aload_n 0, 1) := by decide +kernel
theorem d_M_find_6 : decode b_M_find 6 = .ok (.getfield 150, 3) := by decide +kernel
theorem d_M_find_9 : decode b_M_find 9 = .ok (.invokevirtual 142, 3) := by decide +kernel
theorem d_M_find_12 : decode b_M_find 12 = .ok (.istore_n 1, 1) := by decide +kernel
theorem d_M_find_13 : decode b_M_find 13 = .ok (.iconst 1, 1) := by decide +kernel
theorem d_M_find_14 : decode b_M_find 14 = .ok (.istore_n 2, 1) := by decide +kernel
theorem d_M_find_15 : decode b_M_find 15 = .ok (.iload_n 2, 1) := by decide +kernel
theorem d_M_find_16 : decode b_M_find 16 = .ok (.aload_n 0, 1) := by decide +kernel
theorem d_M_find_17 : decode b_M_find 17 = .ok (.getfield 150, 3) := by decide +kernel
theorem d_M_find_20 : decode b_M_find 20 = .ok (.if_icmp .ge 46, 3) := by decide +kernel
theorem d_M_find_23 : decode b_M_find 23 = .ok (.aload_n 0, 1) := by decide +kernel
theorem d_M_find_24 : decode b_M_find 24 = .ok (.getfield 63, 3) := by decide +kernel
theorem d_M_find_27 : decode b_M_find 27 = .ok (.iload_n 2, 1) := by decide +kernel
theorem d_M_find_28 : decode b_M_find 28 = .ok (.iload_n 1, 1) := by decide +kernel
theorem d_M_find_29 : decode b_M_find 29 = .ok (.ifCond .lt 29, 3) := by decide +kernel
theorem d_M_find_32 : decode b_M_find 32 = .ok (.aload_n 0, 1) := by decide +kernel
theorem d_M_find_33 : decode b_M_find 33 = .ok (.getfield 48, 3) := by decide +kernel
theorem d_M_find_36 : decode b_M_find 36 = .ok (.aload_n 0, 1) := by decide +kernel
theorem d_M_find_37 : decode b_M_find 37 = .ok (.getfield 42, 3) := by decide +kernel
theorem d_M_find_40 : decode b_M_find 40 = .ok (.iload_n 1, 1) := by decide +kernel
theorem d_M_find_41 : decode b_M_find 41 = .ok (.iaload, 1) := by decide +kernel
theorem d_M_find_42 : decode b_M_find 42 = .ok (.iload_n 2, 1) := by decide +kernel
theorem d_M_find_43 : decode b_M_find 43 = .ok (.iadd, 1) := by decide +kernel
theorem d_M_find_44 : decode b_M_find 44 = .ok (.iconst 1, 1) := by decide +kernel
theorem d_M_find_45 : decode b_M_find 45 = .ok (.isub, 1) := by decide +kernel
theorem d_M_find_46 : decode b_M_find 46 = .ok (.baload, 1) := by decide +kernel
theorem d_M_find_47 : decode b_M_find 47 = .ok (.ifCond .eq 7, 3) := by decide +kernel
theorem d_M_find_50 : decode b_M_find 50 = .ok (.iconst 1, 1) := by decide +kernel
theorem d_M_find_51 : decode b_M_find 51 = .ok (.goto 8, 3) := by decide +kernel
theorem d_M_find_54 : decode b_M_find 54 = .ok (.iconst 0, 1) := by decide +kernel
theorem d_M_find_55 : decode b_M_find 55 = .ok (.goto 4, 3) := by decide +kernel
theorem d_M_find_58 : decode b_M_find 58 = .ok (.iconst 0, 1) := by decide +kernel
theorem d_M_find_59 : decode b_M_find 59 = .ok (.iastore, 1) := by decide +kernel
theorem d_M_find_60 : decode b_M_find 60 = .ok (.iinc 2 1, 3) := by decide +kernel
theorem d_M_find_63 : decode b_M_find 63 = .ok (.goto (-48), 3) := by decide +kernel
theorem d_M_find_66 : decode b_M_find 66 = .ok (.iconst 0, 1) := by decide +kernel
theorem d_M_find_67 : decode b_M_find 67 = .ok (.istore_n 2, 1) := by decide +kernel
theorem d_M_find_68 : decode b_M_find 68 = .ok (.iload_n 2, 1) := by decide +kernel
theorem d_M_find_69 : decode b_M_find 69 = .ok (.aload_n 0, 1) := by decide +kernel
theorem d_M_find_70 : decode b_M_find 70 = .ok (.getfield 114, 3) := by decide +kernel
theorem d_M_find_73 : decode b_M_find 73 = .ok (.if_icmp .ge 128, 3) := by decide +kernel
theorem d_M_find_76 : decode b_M_find 76 = .ok (.iload_n 1, 1) := by decide +kernel
theorem d_M_find_77 : decode b_M_find 77 = .ok (.ifCond .ge 124, 3) := by decide +kernel
theorem d_M_find_80 : decode b_M_find 80 = .ok (.iconst 0, 1) := by decide +kernel
theorem d_M_find_81 : decode b_M_find 81 = .ok (.istore_n 3, 1) := by decide +kernel
theorem d_M_find_82 : decode b_M_find 82 = .ok (.iload_n 3, 1) := by decide +kernel
theorem d_M_find_83 : decode b_M_find 83 = .ok (.aload_n 0, 1) := by decide +kernel
theorem d_M_find_84 : decode b_M_find 84 = .ok (.getfield 150, 3) := by decide +kernel
theorem d_M_find_87 : decode b_M_find 87 = .ok (.if_icmp .ge 108, 3) := by decide +kernel
theorem d_M_find_90 : decode b_M_find 90 = .ok (.aload_n 0, 1) := by decide +kernel
theorem d_M_find_91 : decode b_M_find 91 = .ok (.iload_n 2, 1) := by decide +kernel
theorem d_M_find_92 : decode b_M_find 92 = .ok (.iload_n 3, 1) := by decide +kernel
theorem d_M_find_93 : decode b_M_find 93 = .ok (.invokevirtual 153, 3) := by decide +kernel
theorem d_M_find_96 : decode b_M_find 96 = .ok (.ifCond .eq 93, 3) := by decide +kernel
theorem d_M_find_99 : decode b_M_find 99 = .ok (.aload_n 0, 1) := by decide +kernel
theorem d_M_find_100 : decode b_M_find 100 = .ok (.getfield 23, 3) := by decide +kernel
theorem d_M_find_103 : decode b_M_find 103 = .ok (.iload_n 2, 1) := by decide +kernel
theorem d_M_find_104 : decode b_M_find 104 = .ok (.iconst 1, 1) := by decide +kernel
theorem d_M_find_105 : decode b_M_find 105 = .ok (.iadd, 1) := by decide +kernel
theorem d_M_find_106 : decode b_M_find 106 = .ok (.iaload, 1) := by decide +kernel
theorem d_M_find_107 : decode b_M_find 107 = .ok (.aload_n 0, 1) := by decide +kernel
theorem d_M_find_108 : decode b_M_find 108 = .ok (.getfield 23, 3) := by decide +kernel
theorem d_M_find_111 : decode b_M_find 111 = .ok (.iload_n 2, 1) := by decide +kernel
theorem d_M_find_112 : decode b_M_find 112 = .ok (.iaload, 1) := by decide +kernel
theorem d_M_find_113 : decode b_M_find 113 = .ok (.isub, 1) := by decide +kernel
theorem d_M_find_114 : decode b_M_find 114 = .ok (.istore 4, 2) := by decide +kernel
theorem d_M_find_116 : decode b_M_find 116 = .ok (.iconst 0, 1) := by decide +kernel
theorem d_M_find_117 : decode b_M_find 117 = .ok (.istore 5, 2) := by decide +kernel
theorem d_M_find_119 : decode b_M_find 119 = .ok (.iload 5, 2) := by decide +kernel
theorem d_M_find_121 : decode b_M_find 121 = .ok (.iload 4, 2) := by decide +kernel
theorem d_M_find_123 : decode b_M_find 123 = .ok (.if_icmp .gt 66, 3) := by decide +kernel
theorem d_M_find_126 : decode b_M_find 126 = .ok (.aload_n 0, 1) := by decide +kernel
theorem d_M_find_127 : decode b_M_find 127 = .ok (.getfield 39, 3) := by decide +kernel
theorem d_M_find_130 : decode b_M_find 130 = .ok (.aload_n 0, 1) := by decide +kernel
theorem d_M_find_131 : decode b_M_find 131 = .ok (.getfield 26, 3) := by decide +kernel
theorem d_M_find_134 : decode b_M_find 134 = .ok (.iload_n 2, 1) := by decide +kernel
theorem d_M_find_135 : decode b_M_find 135 = .ok (.iaload, 1) := by decide +kernel
theorem d_M_find_136 : decode b_M_find 136 = .ok (.iload 5, 2) := by decide +kernel
theorem d_M_find_138 : decode b_M_find 138 = .ok (.iadd, 1) := by decide +kernel
theorem d_M_find_139 : decode b_M_find 139 = .ok (.iaload, 1) := by decide +kernel
theorem d_M_find_140 : decode b_M_find 140 = .ok (.istore 6, 2) := by decide +kernel
theorem d_M_find_142 : decode b_M_find 142 = .ok (.iload_n 3, 1) := by decide +kernel
theorem d_M_find_143 : decode b_M_find 143 = .ok (.iload 5, 2) := by decide +kernel
theorem d_M_find_145 : decode b_M_find 145 = .ok (.iadd, 1) := by decide +kernel
theorem d_M_find_146 : decode b_M_find 146 = .ok (.istore 7, 2) := by decide +kernel
theorem d_M_find_148 : decode b_M_find 148 = .ok (.iload 7, 2) := by decide +kernel
theorem d_M_find_150 : decode b_M_find 150 = .ok (.ifCond .le 33, 3) := by decide +kernel
theorem d_M_find_153 : decode b_M_find 153 = .ok (.iload 7, 2) := by decide +kernel
theorem d_M_find_155 : decode b_M_find 155 = .ok (.aload_n 0, 1) := by decide +kernel
theorem d_M_find_156 : decode b_M_find 156 = .ok (.getfield 150, 3) := by decide +kernel
theorem d_M_find_159 : decode b_M_find 159 = .ok (.if_icmp .ge 24, 3) := by decide +kernel
theorem d_M_find_162 : decode b_M_find 162 = .ok (.iload 6, 2) := by decide +kernel
theorem d_M_find_164 : decode b_M_find 164 = .ok (.aload_n 0, 1) := by decide +kernel
theorem d_M_find_165 : decode b_M_find 165 = .ok (.getfield 63, 3) := by decide +kernel
theorem d_M_find_168 : decode b_M_find 168 = .ok (.iload 7, 2) := by decide +kernel
theorem d_M_find_170 : decode b_M_find 170 = .ok (.iaload, 1) := by decide +kernel
theorem d_M_find_171 : decode b_M_find 171 = .ok (.if_icmp .le 12, 3) := by decide +kernel
theorem d_M_find_174 : decode b_M_find 174 = .ok (.aload_n 0, 1) := by decide +kernel
theorem d_M_find_175 : decode b_M_find 175 = .ok (.getfield 63, 3) := by decide +kernel
theorem d_M_find_178 : decode b_M_find 178 = .ok (.iload 7, 2) := by decide +kernel
theorem d_M_find_180 : decode b_M_find 180 = .ok (.iload 6, 2) := by decide +kernel
theorem d_M_find_182 : decode b_M_find 182 = .ok (.iastore, 1) := by decide +kernel
theorem d_M_find_183 : decode b_M_find 183 = .ok (.iinc 5 1, 3) := by decide +kernel
theorem d_M_find_186 : decode b_M_find 186 = .ok (.goto (-67), 3) := by decide +kernel
theorem d_M_find_189 : decode b_M_find 189 = .ok (.iinc 3 1, 3) := by decide +kernel
theorem d_M_find_192 : decode b_M_find 192 = .ok (.goto (-110), 3) := by decide +kernel
theorem d_M_find_195 : decode b_M_find 195 = .ok (.iinc 2 1, 3) := by decide +kernel
theorem d_M_find_198 : decode b_M_find 198 = .ok (.goto (-130), 3) := by decide +kernel
theorem d_M_find_201 : decode b_M_find 201 = .ok (.aload_n 0, 1) := by decide +kernel
theorem d_M_find_202 : decode b_M_find 202 = .ok (.iconst 0, 1) := by decide +kernel
theorem d_M_find_203 : decode b_M_find 203 = .ok (.putfield 157, 3) := by decide +kernel
theorem d_M_find_206 : decode b_M_find 206 = .ok (.iconst 1, 1) := by decide +kernel
theorem d_M_find_207 : decode b_M_find 207 = .ok (.istore_n 2, 1) := by decide +kernel
theorem d_M_find_208 : decode b_M_find 208 = .ok (.iload_n 2, 1) := by decide +kernel
theorem d_M_find_209 : decode b_M_find 209 = .ok (.aload_n 0, 1) := by decide +kernel
theorem d_M_find_210 : decode b_M_find 210 = .ok (.getfield 150, 3) := by decide +kernel
theorem d_M_find_213 : decode b_M_find 213 = .ok (.if_icmp .ge 62, 3) := by decide +kernel
theorem d_M_find_216 : decode b_M_find 216 = .ok (.aload_n 0, 1) := by decide +kernel
theorem d_M_find_217 : decode b_M_find 217 = .ok (.getfield 63, 3) := by decide +kernel
theorem d_M_find_220 : decode b_M_find 220 = .ok (.iload_n 2, 1) := by decide +kernel
theorem d_M_find_221 : decode b_M_find 221 = .ok (.iaload, 1) := by decide +kernel
theorem d_M_find_222 : decode b_M_find 222 = .ok (.iconst 2, 1) := by decide +kernel
theorem d_M_find_223 : decode b_M_find 223 = .ok (.irem, 1) := by decide +kernel
theorem d_M_find_224 : decode b_M_find 224 = .ok (.iconst 1, 1) := by decide +kernel
theorem d_M_find_225 : decode b_M_find 225 = .ok (.if_icmp .ne 44, 3) := by decide +kernel
theorem d_M_find_228 : decode b_M_find 228 = .ok (.iload_n 2, 1) := by decide +kernel
theorem d_M_find_229 : decode b_M_find 229 = .ok (.aload_n 0, 1) := by decide +kernel
theorem d_M_find_230 : decode b_M_find 230 = .ok (.getfield 13, 3) := by decide +kernel
theorem d_M_find_233 : decode b_M_find 233 = .ok (.if_icmp .lt 36, 3) := by decide +kernel
theorem d_M_find_236 : decode b_M_find 236 = .ok (.aload_n 0, 1) := by decide +kernel
theorem d_M_find_237 : decode b_M_find 237 = .ok (.getfield 150, 3) := by decide +kernel
theorem d_M_find_240 : decode b_M_find 240 = .ok (.iload_n 2, 1) := by decide +kernel
theorem d_M_find_241 : decode b_M_find 241 = .ok (.isub, 1) := by decide +kernel
theorem d_M_find_242 : decode b_M_find 242 = .ok (.aload_n 0, 1) := by decide +kernel
theorem d_M_find_243 : decode b_M_find 243 = .ok (.getfield 17, 3) := by decide +kernel
theorem d_M_find_246 : decode b_M_find 246 = .ok (.if_icmp .lt 23, 3) := by decide +kernel
theorem d_M_find_249 : decode b_M_find 249 = .ok (.aload_n 0, 1) := by decide +kernel
theorem d_M_find_250 : decode b_M_find 250 = .ok (.getfield 66, 3) := by decide +kernel
theorem d_M_find_253 : decode b_M_find 253 = .ok (.aload_n 0, 1) := by decide +kernel
theorem d_M_find_254 : decode b_M_find 254 = .ok (.getfield 157, 3) := by decide +kernel
theorem d_M_find_257 : decode b_M_find 257 = .ok (.iload_n 2, 1) := by decide +kernel
theorem d_M_find_258 : decode b_M_find 258 = .ok (.iastore, 1) := by decide +kernel
theorem d_M_find_259 : decode b_M_find 259 = .ok (.aload_n 0, 1) := by decide +kernel
theorem d_M_find_260 : decode b_M_find 260 = .ok (.dup, 1) := by decide +kernel
theorem d_M_find_261 : decode b_M_find 261 = .ok (.getfield 157, 3) := by decide +kernel
theorem d_M_find_264 : decode b_M_find 264 = .ok (.iconst 1, 1) := by decide +kernel
theorem d_M_find_265 : decode b_M_find 265 = .ok (.iadd, 1) := by decide +kernel
theorem d_M_find_266 : decode b_M_find 266 = .ok (.putfield 157, 3) := by decide +kernel
theorem d_M_find_269 : decode b_M_find 269 = .ok (.iinc 2 1, 3) := by decide +kernel
theorem d_M_find_272 : decode b_M_find 272 = .ok (.goto (-64), 3) := by decide +kernel
theorem d_M_find_275 : decode b_M_find 275 = .ok (.return_, 1) := by decide +kernel
theorem d_M_word_0 : decode b_M_word 0 = .ok (.aload_n 0, 1) := by decide +kernel
theorem d_M_word_1 : decode b_M_word 1 = .ok (.getfield 81, 3) := by decide +kernel
theorem d_M_word_4 : decode b_M_word 4 = .ok (.istore_n 1, 1) := by decide +kernel
theorem d_M_word_5 : decode b_M_word 5 = .ok (.aload_n 0, 1) := by decide +kernel
theorem d_M_word_6 : decode b_M_word 6 = .ok (.iconst 0, 1) := by decide +kernel
theorem d_M_word_7 : decode b_M_word 7 = .ok (.putfield 81, 3) := by decide +kernel
theorem d_M_word_10 : decode b_M_word 10 = .ok (.iconst 0, 1) := by decide +kernel
theorem d_M_word_11 : decode b_M_word 11 = .ok (.istore_n 2, 1) := by decide +kernel
theorem d_M_word_12 : decode b_M_word 12 = .ok (.iload_n 2, 1) := by decide +kernel
theorem d_M_word_13 : decode b_M_word 13 = .ok (.iload_n 1, 1) := by decide +kernel
theorem d_M_word_14 : decode b_M_word 14 = .ok (.if_icmp .ge 29, 3) := by decide +kernel
theorem d_M_word_17 : decode b_M_word 17 = .ok (.aload_n 0, 1) := by decide +kernel
theorem d_M_word_18 : decode b_M_word 18 = .ok (.getfield 7, 3) := by decide +kernel
theorem d_M_word_21 : decode b_M_word 21 = .ok (.aload_n 0, 1) := by decide +kernel
theorem d_M_word_22 : decode b_M_word 22 = .ok (.getfield 20, 3) := by decide +kernel
theorem d_M_word_25 : decode b_M_word 25 = .ok (.iload_n 2, 1) := by decide +kernel
theorem d_M_word_26 : decode b_M_word 26 = .ok (.iaload, 1) := by decide +kernel
theorem d_M_word_27 : decode b_M_word 27 = .ok (.iaload, 1) := by decide +kernel
theorem d_M_word_28 : decode b_M_word 28 = .ok (.ifCond .ne 9, 3) := by decide +kernel
theorem d_M_word_31 : decode b_M_word 31 = .ok (.iconst 1, 1) := by decide +kernel
theorem d_M_word_32 : decode b_M_word 32 = .ok (.iload_n 2, 1) := by decide +kernel
theorem d_M_word_33 : decode b_M_word 33 = .ok (.invokestatic 123, 3) := by decide +kernel
theorem d_M_word_36 : decode b_M_word 36 = .ok (.ireturn, 1) := by decide +kernel
theorem d_M_word_37 : decode b_M_word 37 = .ok (.iinc 2 1, 3) := by decide +kernel
theorem d_M_word_40 : decode b_M_word 40 = .ok (.goto (-28), 3) := by decide +kernel
theorem d_M_word_43 : decode b_M_word 43 = .ok (.iload_n 1, 1) := by decide +kernel
theorem d_M_word_44 : decode b_M_word 44 = .ok (.ifCond .ne 9, 3) := by decide +kernel
theorem d_M_word_47 : decode b_M_word 47 = .ok (.iconst 1, 1) := by decide +kernel
theorem d_M_word_48 : decode b_M_word 48 = .ok (.iconst 0, 1) := by decide +kernel
theorem d_M_word_49 : decode b_M_word 49 = .ok (.invokestatic 123, 3) := by decide +kernel
theorem d_M_word_52 : decode b_M_word 52 = .ok (.ireturn, 1) := by decide +kernel
theorem d_M_word_53 : decode b_M_word 53 = .ok (.iload_n 1, 1) := by decide +kernel
theorem d_M_word_54 : decode b_M_word 54 = .ok (.bipush 63, 2) := by decide +kernel
theorem d_M_word_56 : decode b_M_word 56 = .ok (.if_icmp .le 9, 3) := by decide +kernel
theorem d_M_word_59 : decode b_M_word 59 = .ok (.iconst 2, 1) := by decide +kernel
theorem d_M_word_60 : decode b_M_word 60 = .ok (.iconst 0, 1) := by decide +kernel
theorem d_M_word_61 : decode b_M_word 61 = .ok (.invokestatic 123, 3) := by decide +kernel
theorem d_M_word_64 : decode b_M_word 64 = .ok (.ireturn, 1) := by decide +kernel
theorem d_M_word_65 : decode b_M_word 65 = .ok (.aload_n 0, 1) := by decide +kernel
theorem d_M_word_66 : decode b_M_word 66 = .ok (.iload_n 1, 1) := by decide +kernel
theorem d_M_word_67 : decode b_M_word 67 = .ok (.putfield 150, 3) := by decide +kernel
theorem d_M_word_70 : decode b_M_word 70 = .ok (.iconst 0, 1) := by decide +kernel
theorem d_M_word_71 : decode b_M_word 71 = .ok (.istore_n 2, 1) := by decide +kernel
theorem d_M_word_72 : decode b_M_word 72 = .ok (.iload_n 2, 1) := by decide +kernel
theorem d_M_word_73 : decode b_M_word 73 = .ok (.iload_n 1, 1) := by decide +kernel
theorem d_M_word_74 : decode b_M_word 74 = .ok (.if_icmp .ge 26, 3) := by decide +kernel
theorem d_M_word_77 : decode b_M_word 77 = .ok (.aload_n 0, 1) := by decide +kernel
theorem d_M_word_78 : decode b_M_word 78 = .ok (.getfield 60, 3) := by decide +kernel
theorem d_M_word_81 : decode b_M_word 81 = .ok (.iload_n 2, 1) := by decide +kernel
theorem d_M_word_82 : decode b_M_word 82 = .ok (.aload_n 0, 1) := by decide +kernel
theorem d_M_word_83 : decode b_M_word 83 = .ok (.getfield 7, 3) := by decide +kernel
theorem d_M_word_86 : decode b_M_word 86 = .ok (.aload_n 0, 1) := by decide +kernel
theorem d_M_word_87 : decode b_M_word 87 = .ok (.getfield 20, 3) := by decide +kernel
theorem d_M_word_90 : decode b_M_word 90 = .ok (.iload_n 2, 1) := by decide +kernel
theorem d_M_word_91 : decode b_M_word 91 = .ok (.iaload, 1) := by decide +kernel
theorem d_M_word_92 : decode b_M_word 92 = .ok (.iaload, 1) := by decide +kernel
theorem d_M_word_93 : decode b_M_word 93 = .ok (.iastore, 1) := by decide +kernel
theorem d_M_word_94 : decode b_M_word 94 = .ok (.iinc 2 1, 3) := by decide +kernel
theorem d_M_word_97 : decode b_M_word 97 = .ok (.goto (-25), 3) := by decide +kernel
theorem d_M_word_100 : decode b_M_word 100 = .ok (.aload_n 0, 1) := by decide +kernel
theorem d_M_word_101 : decode b_M_word 101 = .ok (.invokevirtual 160, 3) := by decide +kernel
theorem d_M_word_104 : decode b_M_word 104 = .ok (.aload_n 0, 1) := by decide +kernel
theorem d_M_word_105 : decode b_M_word 105 = .ok (.getfield 157, 3) := by decide +kernel
theorem d_M_word_108 : decode b_M_word 108 = .ok (.ireturn, 1) := by decide +kernel
