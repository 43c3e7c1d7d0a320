theorem d_M_readPattern_0 : decode b_M_readPattern 0 = .ok (.aload_n 0, 1) := by decide +kernel
theorem d_M_readPattern_1 : decode b_M_readPattern 1 = .ok (.iconst 0, 1) := by decide +kernel
theorem d_M_readPattern_2 : decode b_M_readPattern 2 = .ok (.putfield 93, 3) := by decide +kernel
theorem d_M_readPattern_5 : decode b_M_readPattern 5 = .ok (.aload_n 0, 1) := by decide +kernel
theorem d_M_readPattern_6 : decode b_M_readPattern 6 = .ok (.aload_n 0, 1) := by decide +kernel
theorem d_M_readPattern_7 : decode b_M_readPattern 7 = .ok (.invokevirtual 96, 3) := by decide +kernel
theorem d_M_readPattern_10 : decode b_M_readPattern 10 = .ok (.bipush 46, 2) := by decide +kernel
theorem d_M_readPattern_12 : decode b_M_readPattern 12 = .ok (.if_icmp .ne 7, 3) := by decide +kernel
theorem d_M_readPattern_15 : decode b_M_readPattern 15 = .ok (.iconst 1, 1) := by decide +kernel
theorem d_M_readPattern_16 : decode b_M_readPattern 16 = .ok (.goto 4, 3) := by decide +kernel
theorem d_M_readPattern_19 : decode b_M_readPattern 19 = .ok (.iconst 0, 1) := by decide +kernel
theorem d_M_readPattern_20 : decode b_M_readPattern 20 = .ok (.putfield 100, 3) := by decide +kernel
theorem d_M_readPattern_23 : decode b_M_readPattern 23 = .ok (.aload_n 0, 1) := by decide +kernel
theorem d_M_readPattern_24 : decode b_M_readPattern 24 = .ok (.iconst 0, 1) := by decide +kernel
theorem d_M_readPattern_25 : decode b_M_readPattern 25 = .ok (.putfield 104, 3) := by decide +kernel
theorem d_M_readPattern_28 : decode b_M_readPattern 28 = .ok (.aload_n 0, 1) := by decide +kernel
theorem d_M_readPattern_29 : decode b_M_readPattern 29 = .ok (.getfield 100, 3) := by decide +kernel
theorem d_M_readPattern_32 : decode b_M_readPattern 32 = .ok (.ifCond .eq 13, 3) := by decide +kernel
theorem d_M_readPattern_35 : decode b_M_readPattern 35 = .ok (.aload_n 0, 1) := by decide +kernel
theorem d_M_readPattern_36 : decode b_M_readPattern 36 = .ok (.dup, 1) := by decide +kernel
theorem d_M_readPattern_37 : decode b_M_readPattern 37 = .ok (.getfield 90, 3) := by decide +kernel
theorem d_M_readPattern_40 : decode b_M_readPattern 40 = .ok (.iconst 1, 1) := by decide +kernel
theorem d_M_readPattern_41 : decode b_M_readPattern 41 = .ok (.iadd, 1) := by decide +kernel
theorem d_M_readPattern_42 : decode b_M_readPattern 42 = .ok (.putfield 90, 3) := by decide +kernel
theorem d_M_readPattern_45 : decode b_M_readPattern 45 = .ok (.iconst 0, 1) := by decide +kernel
theorem d_M_readPattern_46 : decode b_M_readPattern 46 = .ok (.istore_n 1, 1) := by decide +kernel
theorem d_M_readPattern_47 : decode b_M_readPattern 47 = .ok (.aload_n 0, 1) := by decide +kernel
theorem d_M_readPattern_48 : decode b_M_readPattern 48 = .ok (.getfield 54, 3) := by decide +kernel
theorem d_M_readPattern_51 : decode b_M_readPattern 51 = .ok (.iconst 0, 1) := by decide +kernel
theorem d_M_readPattern_52 : decode b_M_readPattern 52 = .ok (.iconst 0, 1) := by decide +kernel
theorem d_M_readPattern_53 : decode b_M_readPattern 53 = .ok (.iastore, 1) := by decide +kernel
theorem d_M_readPattern_54 : decode b_M_readPattern 54 = .ok (.aload_n 0, 1) := by decide +kernel
theorem d_M_readPattern_55 : decode b_M_readPattern 55 = .ok (.invokevirtual 96, 3) := by decide +kernel
theorem d_M_readPattern_58 : decode b_M_readPattern 58 = .ok (.invokestatic 86, 3) := by decide +kernel
theorem d_M_readPattern_61 : decode b_M_readPattern 61 = .ok (.ifCond .eq 38, 3) := by decide +kernel
theorem d_M_readPattern_64 : decode b_M_readPattern 64 = .ok (.iload_n 1, 1) := by decide +kernel
theorem d_M_readPattern_65 : decode b_M_readPattern 65 = .ok (.ifCond .ne 34, 3) := by decide +kernel
theorem d_M_readPattern_68 : decode b_M_readPattern 68 = .ok (.aload_n 0, 1) := by decide +kernel
theorem d_M_readPattern_69 : decode b_M_readPattern 69 = .ok (.getfield 54, 3) := by decide +kernel
theorem d_M_readPattern_72 : decode b_M_readPattern 72 = .ok (.aload_n 0, 1) := by decide +kernel
theorem d_M_readPattern_73 : decode b_M_readPattern 73 = .ok (.getfield 93, 3) := by decide +kernel
theorem d_M_readPattern_76 : decode b_M_readPattern 76 = .ok (.aload_n 0, 1) := by decide +kernel
theorem d_M_readPattern_77 : decode b_M_readPattern 77 = .ok (.invokevirtual 96, 3) := by decide +kernel
theorem d_M_readPattern_80 : decode b_M_readPattern 80 = .ok (.bipush 48, 2) := by decide +kernel
theorem d_M_readPattern_82 : decode b_M_readPattern 82 = .ok (.isub, 1) := by decide +kernel
theorem d_M_readPattern_83 : decode b_M_readPattern 83 = .ok (.iastore, 1) := by decide +kernel
theorem d_M_readPattern_84 : decode b_M_readPattern 84 = .ok (.iconst 1, 1) := by decide +kernel
theorem d_M_readPattern_85 : decode b_M_readPattern 85 = .ok (.istore_n 1, 1) := by decide +kernel
theorem d_M_readPattern_86 : decode b_M_readPattern 86 = .ok (.aload_n 0, 1) := by decide +kernel
theorem d_M_readPattern_87 : decode b_M_readPattern 87 = .ok (.dup, 1) := by decide +kernel
theorem d_M_readPattern_88 : decode b_M_readPattern 88 = .ok (.getfield 90, 3) := by decide +kernel
theorem d_M_readPattern_91 : decode b_M_readPattern 91 = .ok (.iconst 1, 1) := by decide +kernel
theorem d_M_readPattern_92 : decode b_M_readPattern 92 = .ok (.iadd, 1) := by decide +kernel
theorem d_M_readPattern_93 : decode b_M_readPattern 93 = .ok (.putfield 90, 3) := by decide +kernel
theorem d_M_readPattern_96 : decode b_M_readPattern 96 = .ok (.goto (-42), 3) := by decide +kernel
theorem d_M_readPattern_99 : decode b_M_readPattern 99 = .ok (.aload_n 0, 1) := by decide +kernel
theorem d_M_readPattern_100 : decode b_M_readPattern 100 = .ok (.invokevirtual 107, 3) := by decide +kernel
theorem d_M_readPattern_103 : decode b_M_readPattern 103 = .ok (.ifCond .eq 56, 3) := by decide +kernel
theorem d_M_readPattern_106 : decode b_M_readPattern 106 = .ok (.aload_n 0, 1) := by decide +kernel
theorem d_M_readPattern_107 : decode b_M_readPattern 107 = .ok (.getfield 51, 3) := by decide +kernel
theorem d_M_readPattern_110 : decode b_M_readPattern 110 = .ok (.aload_n 0, 1) := by decide +kernel
theorem d_M_readPattern_111 : decode b_M_readPattern 111 = .ok (.getfield 93, 3) := by decide +kernel
theorem d_M_readPattern_114 : decode b_M_readPattern 114 = .ok (.aload_n 0, 1) := by decide +kernel
theorem d_M_readPattern_115 : decode b_M_readPattern 115 = .ok (.getfield 7, 3) := by decide +kernel
theorem d_M_readPattern_118 : decode b_M_readPattern 118 = .ok (.aload_n 0, 1) := by decide +kernel
theorem d_M_readPattern_119 : decode b_M_readPattern 119 = .ok (.invokevirtual 96, 3) := by decide +kernel
theorem d_M_readPattern_122 : decode b_M_readPattern 122 = .ok (.iaload, 1) := by decide +kernel
theorem d_M_readPattern_123 : decode b_M_readPattern 123 = .ok (.iastore, 1) := by decide +kernel
theorem d_M_readPattern_124 : decode b_M_readPattern 124 = .ok (.aload_n 0, 1) := by decide +kernel
theorem d_M_readPattern_125 : decode b_M_readPattern 125 = .ok (.dup, 1) := by decide +kernel
theorem d_M_readPattern_126 : decode b_M_readPattern 126 = .ok (.getfield 93, 3) := by decide +kernel
theorem d_M_readPattern_129 : decode b_M_readPattern 129 = .ok (.iconst 1, 1) := by decide +kernel
theorem d_M_readPattern_130 : decode b_M_readPattern 130 = .ok (.iadd, 1) := by decide +kernel
theorem d_M_readPattern_131 : decode b_M_readPattern 131 = .ok (.putfield 93, 3) := by decide +kernel
theorem d_M_readPattern_134 : decode b_M_readPattern 134 = .ok (.aload_n 0, 1) := by decide +kernel
theorem d_M_readPattern_135 : decode b_M_readPattern 135 = .ok (.getfield 54, 3) := by decide +kernel
theorem d_M_readPattern_138 : decode b_M_readPattern 138 = .ok (.aload_n 0, 1) := by decide +kernel
theorem d_M_readPattern_139 : decode b_M_readPattern 139 = .ok (.getfield 93, 3) := by decide +kernel
theorem d_M_readPattern_142 : decode b_M_readPattern 142 = .ok (.iconst 0, 1) := by decide +kernel
theorem d_M_readPattern_143 : decode b_M_readPattern 143 = .ok (.iastore, 1) := by decide +kernel
theorem d_M_readPattern_144 : decode b_M_readPattern 144 = .ok (.iconst 0, 1) := by decide +kernel
theorem d_M_readPattern_145 : decode b_M_readPattern 145 = .ok (.istore_n 1, 1) := by decide +kernel
theorem d_M_readPattern_146 : decode b_M_readPattern 146 = .ok (.aload_n 0, 1) := by decide +kernel
theorem d_M_readPattern_147 : decode b_M_readPattern 147 = .ok (.dup, 1) := by decide +kernel
theorem d_M_readPattern_148 : decode b_M_readPattern 148 = .ok (.getfield 90, 3) := by decide +kernel
theorem d_M_readPattern_151 : decode b_M_readPattern 151 = .ok (.iconst 1, 1) := by decide +kernel
theorem d_M_readPattern_152 : decode b_M_readPattern 152 = .ok (.iadd, 1) := by decide +kernel
theorem d_M_readPattern_153 : decode b_M_readPattern 153 = .ok (.putfield 90, 3) := by decide +kernel
theorem d_M_readPattern_156 : decode b_M_readPattern 156 = .ok (.goto (-102), 3) := by decide +kernel
theorem d_M_readPattern_159 : decode b_M_readPattern 159 = .ok (.aload_n 0, 1) := by decide +kernel
theorem d_M_readPattern_160 : decode b_M_readPattern 160 = .ok (.invokevirtual 96, 3) := by decide +kernel
theorem d_M_readPattern_163 : decode b_M_readPattern 163 = .ok (.bipush 46, 2) := by decide +kernel
theorem d_M_readPattern_165 : decode b_M_readPattern 165 = .ok (.if_icmp .ne 30, 3) := by decide +kernel
theorem d_M_readPattern_168 : decode b_M_readPattern 168 = .ok (.aload_n 0, 1) := by decide +kernel
theorem d_M_readPattern_169 : decode b_M_readPattern 169 = .ok (.getfield 93, 3) := by decide +kernel
theorem d_M_readPattern_172 : decode b_M_readPattern 172 = .ok (.ifCond .le 23, 3) := by decide +kernel
theorem d_M_readPattern_175 : decode b_M_readPattern 175 = .ok (.aload_n 0, 1) := by decide +kernel
theorem d_M_readPattern_176 : decode b_M_readPattern 176 = .ok (.iconst 1, 1) := by decide +kernel
theorem d_M_readPattern_177 : decode b_M_readPattern 177 = .ok (.putfield 104, 3) := by decide +kernel
theorem d_M_readPattern_180 : decode b_M_readPattern 180 = .ok (.aload_n 0, 1) := by decide +kernel
theorem d_M_readPattern_181 : decode b_M_readPattern 181 = .ok (.dup, 1) := by decide +kernel
theorem d_M_readPattern_182 : decode b_M_readPattern 182 = .ok (.getfield 90, 3) := by decide +kernel
theorem d_M_readPattern_185 : decode b_M_readPattern 185 = .ok (.iconst 1, 1) := by decide +kernel
theorem d_M_readPattern_186 : decode b_M_readPattern 186 = .ok (.iadd, 1) := by decide +kernel
theorem d_M_readPattern_187 : decode b_M_readPattern 187 = .ok (.putfield 90, 3) := by decide +kernel
theorem d_M_readPattern_190 : decode b_M_readPattern 190 = .ok (.aload_n 0, 1) := by decide +kernel
theorem d_M_readPattern_191 : decode b_M_readPattern 191 = .ok (.invokevirtual 111, 3) := by decide +kernel
theorem d_M_readPattern_194 : decode b_M_readPattern 194 = .ok (.ireturn, 1) := by decide +kernel
theorem d_M_readPattern_195 : decode b_M_readPattern 195 = .ok (.aload_n 0, 1) := by decide +kernel
theorem d_M_readPattern_196 : decode b_M_readPattern 196 = .ok (.getfield 93, 3) := by decide +kernel
theorem d_M_readPattern_199 : decode b_M_readPattern 199 = .ok (.ifCond .le 14, 3) := by decide +kernel
theorem d_M_readPattern_202 : decode b_M_readPattern 202 = .ok (.aload_n 0, 1) := by decide +kernel
theorem d_M_readPattern_203 : decode b_M_readPattern 203 = .ok (.invokevirtual 111, 3) := by decide +kernel
theorem d_M_readPattern_206 : decode b_M_readPattern 206 = .ok (.ifCond .eq 7, 3) := by decide +kernel
theorem d_M_readPattern_209 : decode b_M_readPattern 209 = .ok (.iconst 1, 1) := by decide +kernel
theorem d_M_readPattern_210 : decode b_M_readPattern 210 = .ok (.goto 4, 3) := by decide +kernel
theorem d_M_readPattern_213 : decode b_M_readPattern 213 = .ok (.iconst 0, 1) := by decide +kernel
theorem d_M_readPattern_214 : decode b_M_readPattern 214 = .ok (.ireturn, 1) := by decide +kernel
theorem d_M_isThere_0 : decode b_M_isThere 0 = .ok (.aload_n 0, 1) := by decide +kernel
theorem d_M_isThere_1 : decode b_M_isThere 1 = .ok (.getfield 23, 3) := by decide +kernel
theorem d_M_isThere_4 : decode b_M_isThere 4 = .ok (.iload_n 1, 1) := by decide +kernel
theorem d_M_isThere_5 : decode b_M_isThere 5 = .ok (.iaload, 1) := by decide +kernel
theorem d_M_isThere_6 : decode b_M_isThere 6 = .ok (.istore_n 2, 1) := by decide +kernel
theorem d_M_isThere_7 : decode b_M_isThere 7 = .ok (.aload_n 0, 1) := by decide +kernel
theorem d_M_isThere_8 : decode b_M_isThere 8 = .ok (.getfield 23, 3) := by decide +kernel
theorem d_M_isThere_11 : decode b_M_isThere 11 = .ok (.iload_n 1, 1) := by decide +kernel
theorem d_M_isThere_12 : decode b_M_isThere 12 = .ok (.iconst 1, 1) := by decide +kernel
theorem d_M_isThere_13 : decode b_M_isThere 13 = .ok (.iadd, 1) := by decide +kernel
theorem d_M_isThere_14 : decode b_M_isThere 14 = .ok (.iaload, 1) := by decide +kernel
theorem d_M_isThere_15 : decode b_M_isThere 15 = .ok (.iload_n 2, 1) := by decide +kernel
theorem d_M_isThere_16 : decode b_M_isThere 16 = .ok (.isub, 1) := by decide +kernel
theorem d_M_isThere_17 : decode b_M_isThere 17 = .ok (.aload_n 0, 1) := by decide +kernel
theorem d_M_isThere_18 : decode b_M_isThere 18 = .ok (.getfield 93, 3) := by decide +kernel
theorem d_M_isThere_21 : decode b_M_isThere 21 = .ok (.if_icmp .ne 29, 3) := by decide +kernel
theorem d_M_isThere_24 : decode b_M_isThere 24 = .ok (.aload_n 0, 1) := by decide +kernel
theorem d_M_isThere_25 : decode b_M_isThere 25 = .ok (.getfield 29, 3) := by decide +kernel
theorem d_M_isThere_28 : decode b_M_isThere 28 = .ok (.iload_n 1, 1) := by decide +kernel
theorem d_M_isThere_29 : decode b_M_isThere 29 = .ok (.baload, 1) := by decide +kernel
theorem d_M_isThere_30 : decode b_M_isThere 30 = .ok (.aload_n 0, 1) := by decide +kernel
theorem d_M_isThere_31 : decode b_M_isThere 31 = .ok (.getfield 100, 3) := by decide +kernel
theorem d_M_isThere_34 : decode b_M_isThere 34 = .ok (.if_icmp .ne 16, 3) := by decide +kernel
theorem d_M_isThere_37 : decode b_M_isThere 37 = .ok (.aload_n 0, 1) := by decide +kernel
theorem d_M_isThere_38 : decode b_M_isThere 38 = .ok (.getfield 33, 3) := by decide +kernel
theorem d_M_isThere_41 : decode b_M_isThere 41 = .ok (.iload_n 1, 1) := by decide +kernel
theorem d_M_isThere_42 : decode b_M_isThere 42 = .ok (.baload, 1) := by decide +kernel
theorem d_M_isThere_43 : decode b_M_isThere 43 = .ok (.aload_n 0, 1) := by decide +kernel
theorem d_M_isThere_44 : decode b_M_isThere 44 = .ok (.getfield 104, 3) := by decide +kernel
theorem d_M_isThere_47 : decode b_M_isThere 47 = .ok (.if_icmp .eq 5, 3) := by decide +kernel
theorem d_M_isThere_50 : decode b_M_isThere 50 = .ok (.iconst 0, 1) := by decide +kernel
theorem d_M_isThere_51 : decode b_M_isThere 51 = .ok (.ireturn, 1) := by decide +kernel
theorem d_M_isThere_52 : decode b_M_isThere 52 = .ok (.iconst 1, 1) := by decide +kernel
theorem d_M_isThere_53 : decode b_M_isThere 53 = .ok (.istore_n 3, 1) := by decide +kernel
theorem d_M_isThere_54 : decode b_M_isThere 54 = .ok (.iconst 0, 1) := by decide +kernel
theorem d_M_isThere_55 : decode b_M_isThere 55 = .ok (.istore 4, 2) := by decide +kernel
theorem d_M_isThere_57 : decode b_M_isThere 57 = .ok (.iload 4, 2) := by decide +kernel
theorem d_M_isThere_59 : decode b_M_isThere 59 = .ok (.aload_n 0, 1) := by decide +kernel
theorem d_M_isThere_60 : decode b_M_isThere 60 = .ok (.getfield 93, 3) := by decide +kernel
theorem d_M_isThere_63 : decode b_M_isThere 63 = .ok (.if_icmp .ge 38, 3) := by decide +kernel
theorem d_M_isThere_66 : decode b_M_isThere 66 = .ok (.iload_n 3, 1) := by decide +kernel
theorem d_M_isThere_67 : decode b_M_isThere 67 = .ok (.ifCond .eq 34, 3) := by decide +kernel
theorem d_M_isThere_70 : decode b_M_isThere 70 = .ok (.aload_n 0, 1) := by decide +kernel
theorem d_M_isThere_71 : decode b_M_isThere 71 = .ok (.getfield 36, 3) := by decide +kernel
theorem d_M_isThere_74 : decode b_M_isThere 74 = .ok (.iload_n 2, 1) := by decide +kernel
theorem d_M_isThere_75 : decode b_M_isThere 75 = .ok (.iload 4, 2) := by decide +kernel
theorem d_M_isThere_77 : decode b_M_isThere 77 = .ok (.iadd, 1) := by decide +kernel
theorem d_M_isThere_78 : decode b_M_isThere 78 = .ok (.iaload, 1) := by decide +kernel
theorem d_M_isThere_79 : decode b_M_isThere 79 = .ok (.aload_n 0, 1) := by decide +kernel
theorem d_M_isThere_80 : decode b_M_isThere 80 = .ok (.getfield 51, 3) := by decide +kernel
theorem d_M_isThere_83 : decode b_M_isThere 83 = .ok (.iload 4, 2) := by decide +kernel
theorem d_M_isThere_85 : decode b_M_isThere 85 = .ok (.iaload, 1) := by decide +kernel
theorem d_M_isThere_86 : decode b_M_isThere 86 = .ok (.if_icmp .ne 7, 3) := by decide +kernel
theorem d_M_isThere_89 : decode b_M_isThere 89 = .ok (.iconst 1, 1) := by decide +kernel
theorem d_M_isThere_90 : decode b_M_isThere 90 = .ok (.goto 4, 3) := by decide +kernel
theorem d_M_isThere_93 : decode b_M_isThere 93 = .ok (.iconst 0, 1) := by decide +kernel
theorem d_M_isThere_94 : decode b_M_isThere 94 = .ok (.istore_n 3, 1) := by decide +kernel
theorem d_M_isThere_95 : decode b_M_isThere 95 = .ok (.iinc 4 1, 3) := by decide +kernel
theorem d_M_isThere_98 : decode b_M_isThere 98 = .ok (.goto (-41), 3) := by decide +kernel
theorem d_M_isThere_101 : decode b_M_isThere 101 = .ok (.iload_n 3, 1) := by decide +kernel
theorem d_M_isThere_102 : decode b_M_isThere 102 = .ok (.ireturn, 1) := by decide +kernel
theorem d_M_addPattern_0 : decode b_M_addPattern 0 = .ok (.aload_n 0, 1) := by decide +kernel
theorem d_M_addPattern_1 : decode b_M_addPattern 1 = .ok (.getfield 23, 3) := by decide +kernel
theorem d_M_addPattern_4 : decode b_M_addPattern 4 = .ok (.aload_n 0, 1) := by decide +kernel
theorem d_M_addPattern_5 : decode b_M_addPattern 5 = .ok (.getfield 114, 3) := by decide +kernel
theorem d_M_addPattern_8 : decode b_M_addPattern 8 = .ok (.iaload, 1) := by decide +kernel
theorem d_M_addPattern_9 : decode b_M_addPattern 9 = .ok (.istore_n 1, 1) := by decide +kernel
theorem d_M_addPattern_10 : decode b_M_addPattern 10 = .ok (.aload_n 0, 1) := by decide +kernel
theorem d_M_addPattern_11 : decode b_M_addPattern 11 = .ok (.getfield 26, 3) := by decide +kernel
theorem d_M_addPattern_14 : decode b_M_addPattern 14 = .ok (.aload_n 0, 1) := by decide +kernel
theorem d_M_addPattern_15 : decode b_M_addPattern 15 = .ok (.getfield 114, 3) := by decide +kernel
theorem d_M_addPattern_18 : decode b_M_addPattern 18 = .ok (.iaload, 1) := by decide +kernel
theorem d_M_addPattern_19 : decode b_M_addPattern 19 = .ok (.istore_n 2, 1) := by decide +kernel
theorem d_M_addPattern_20 : decode b_M_addPattern 20 = .ok (.iconst 0, 1) := by decide +kernel
theorem d_M_addPattern_21 : decode b_M_addPattern 21 = .ok (.istore_n 3, 1) := by decide +kernel
theorem d_M_addPattern_22 : decode b_M_addPattern 22 = .ok (.iload_n 3, 1) := by decide +kernel
theorem d_M_addPattern_23 : decode b_M_addPattern 23 = .ok (.aload_n 0, 1) := by decide +kernel
theorem d_M_addPattern_24 : decode b_M_addPattern 24 = .ok (.getfield 93, 3) := by decide +kernel
theorem d_M_addPattern_27 : decode b_M_addPattern 27 = .ok (.if_icmp .ge 23, 3) := by decide +kernel
theorem d_M_addPattern_30 : decode b_M_addPattern 30 = .ok (.aload_n 0, 1) := by decide +kernel
theorem d_M_addPattern_31 : decode b_M_addPattern 31 = .ok (.getfield 36, 3) := by decide +kernel
theorem d_M_addPattern_34 : decode b_M_addPattern 34 = .ok (.iload_n 1, 1) := by decide +kernel
theorem d_M_addPattern_35 : decode b_M_addPattern 35 = .ok (.iload_n 3, 1) := by decide +kernel
theorem d_M_addPattern_36 : decode b_M_addPattern 36 = .ok (.iadd, 1) := by decide +kernel
theorem d_M_addPattern_37 : decode b_M_addPattern 37 = .ok (.aload_n 0, 1) := by decide +kernel
theorem d_M_addPattern_38 : decode b_M_addPattern 38 = .ok (.getfield 51, 3) := by decide +kernel
theorem d_M_addPattern_41 : decode b_M_addPattern 41 = .ok (.iload_n 3, 1) := by decide +kernel
theorem d_M_addPattern_42 : decode b_M_addPattern 42 = .ok (.iaload, 1) := by decide +kernel
theorem d_M_addPattern_43 : decode b_M_addPattern 43 = .ok (.iastore, 1) := by decide +kernel
theorem d_M_addPattern_44 : decode b_M_addPattern 44 = .ok (.iinc 3 1, 3) := by decide +kernel
theorem d_M_addPattern_47 : decode b_M_addPattern 47 = .ok (.goto (-25), 3) := by decide +kernel
theorem d_M_addPattern_50 : decode b_M_addPattern 50 = .ok (.iconst 0, 1) := by decide +kernel
theorem d_M_addPattern_51 : decode b_M_addPattern 51 = .ok (.istore_n 3, 1) := by decide +kernel
theorem d_M_addPattern_52 : decode b_M_addPattern 52 = .ok (.iload_n 3, 1) := by decide +kernel
theorem d_M_addPattern_53 : decode b_M_addPattern 53 = .ok (.aload_n 0, 1) := by decide +kernel
theorem d_M_addPattern_54 : decode b_M_addPattern 54 = .ok (.getfield 93, 3) := by decide +kernel
theorem d_M_addPattern_57 : decode b_M_addPattern 57 = .ok (.if_icmp .gt 23, 3) := by decide +kernel
theorem d_M_addPattern_60 : decode b_M_addPattern 60 = .ok (.aload_n 0, 1) := by decide +kernel
theorem d_M_addPattern_61 : decode b_M_addPattern 61 = .ok (.getfield 39, 3) := by decide +kernel
theorem d_M_addPattern_64 : decode b_M_addPattern 64 = .ok (.iload_n 2, 1) := by decide +kernel
theorem d_M_addPattern_65 : decode b_M_addPattern 65 = .ok (.iload_n 3, 1) := by decide +kernel
theorem d_M_addPattern_66 : decode b_M_addPattern 66 = .ok (.iadd, 1) := by decide +kernel
theorem d_M_addPattern_67 : decode b_M_addPattern 67 = .ok (.aload_n 0, 1) := by decide +kernel
theorem d_M_addPattern_68 : decode b_M_addPattern 68 = .ok (.getfield 54, 3) := by decide +kernel
theorem d_M_addPattern_71 : decode b_M_addPattern 71 = .ok (.iload_n 3, 1) := by decide +kernel
theorem d_M_addPattern_72 : decode b_M_addPattern 72 = .ok (.iaload, 1) := by decide +kernel
theorem d_M_addPattern_73 : decode b_M_addPattern 73 = .ok (.iastore, 1) := by decide +kernel
theorem d_M_addPattern_74 : decode b_M_addPattern 74 = .ok (.iinc 3 1, 3) := by decide +kernel
theorem d_M_addPattern_77 : decode b_M_addPattern 77 = .ok (.goto (-25), 3) := by decide +kernel
theorem d_M_addPattern_80 : decode b_M_addPattern 80 = .ok (.aload_n 0, 1) := by decide +kernel
theorem d_M_addPattern_81 : decode b_M_addPattern 81 = .ok (.getfield 29, 3) := by decide +kernel
theorem d_M_addPattern_84 : decode b_M_addPattern 84 = .ok (.aload_n 0, 1) := by decide +kernel
theorem d_M_addPattern_85 : decode b_M_addPattern 85 = .ok (.getfield 114, 3) := by decide +kernel
theorem d_M_addPattern_88 : decode b_M_addPattern 88 = .ok (.aload_n 0, 1) := by decide +kernel
theorem d_M_addPattern_89 : decode b_M_addPattern 89 = .ok (.getfield 100, 3) := by decide +kernel
theorem d_M_addPattern_92 : decode b_M_addPattern 92 = .ok (.bastore, 1) := by decide +kernel
theorem d_M_addPattern_93 : decode b_M_addPattern 93 = .ok (.aload_n 0, 1) := by decide +kernel
theorem d_M_addPattern_94 : decode b_M_addPattern 94 = .ok (.getfield 33, 3) := by decide +kernel
theorem d_M_addPattern_97 : decode b_M_addPattern 97 = .ok (.aload_n 0, 1) := by decide +kernel
theorem d_M_addPattern_98 : decode b_M_addPattern 98 = .ok (.getfield 114, 3) := by decide +kernel
theorem d_M_addPattern_101 : decode b_M_addPattern 101 = .ok (.aload_n 0, 1) := by decide +kernel
theorem d_M_addPattern_102 : decode b_M_addPattern 102 = .ok (.getfield 104, 3) := by decide +kernel
theorem d_M_addPattern_105 : decode b_M_addPattern 105 = .ok (.bastore, 1) := by decide +kernel
theorem d_M_addPattern_106 : decode b_M_addPattern 106 = .ok (.aload_n 0, 1) := by decide +kernel
theorem d_M_addPattern_107 : decode b_M_addPattern 107 = .ok (.dup, 1) := by decide +kernel
theorem d_M_addPattern_108 : decode b_M_addPattern 108 = .ok (.getfield 114, 3) := by decide +kernel
theorem d_M_addPattern_111 : decode b_M_addPattern 111 = .ok (.iconst 1, 1) := by decide +kernel
theorem d_M_addPattern_112 : decode b_M_addPattern 112 = .ok (.iadd, 1) := by decide +kernel
theorem d_M_addPattern_113 : decode b_M_addPattern 113 = .ok (.putfield 114, 3) := by decide +kernel
theorem d_M_addPattern_116 : decode b_M_addPattern 116 = .ok (.aload_n 0, 1) := by decide +kernel
theorem d_M_addPattern_117 : decode b_M_addPattern 117 = .ok (.getfield 23, 3) := by decide +kernel
theorem d_M_addPattern_120 : decode b_M_addPattern 120 = .ok (.aload_n 0, 1) := by decide +kernel
theorem d_M_addPattern_121 : decode b_M_addPattern 121 = .ok (.getfield 114, 3) := by decide +kernel
theorem d_M_addPattern_124 : decode b_M_addPattern 124 = .ok (.iload_n 1, 1) := by decide +kernel
theorem d_M_addPattern_125 : decode b_M_addPattern 125 = .ok (.aload_n 0, 1) := by decide +kernel
theorem d_M_addPattern_126 : decode b_M_addPattern 126 = .ok (.getfield 93, 3) := by decide +kernel
theorem d_M_addPattern_129 : decode b_M_addPattern 129 = .ok (.iadd, 1) := by decide +kernel
theorem d_M_addPattern_130 : decode b_M_addPattern 130 = .ok (.iastore, 1) := by decide +kernel
theorem d_M_addPattern_131 : decode b_M_addPattern 131 = .ok (.aload_n 0, 1) := by decide +kernel
theorem d_M_addPattern_132 : decode b_M_addPattern 132 = .ok (.getfield 26, 3) := by decide +kernel
theorem d_M_addPattern_135 : decode b_M_addPattern 135 = .ok (.aload_n 0, 1) := by decide +kernel
theorem d_M_addPattern_136 : decode b_M_addPattern 136 = .ok (.getfield 114, 3) := by decide +kernel
theorem d_M_addPattern_139 : decode b_M_addPattern 139 = .ok (.iload_n 2, 1) := by decide +kernel
theorem d_M_addPattern_140 : decode b_M_addPattern 140 = .ok (.aload_n 0, 1) := by decide +kernel
theorem d_M_addPattern_141 : decode b_M_addPattern 141 = .ok (.getfield 93, 3) := by decide +kernel
theorem d_M_addPattern_144 : decode b_M_addPattern 144 = .ok (.iadd, 1) := by decide +kernel
theorem d_M_addPattern_145 : decode b_M_addPattern 145 = .ok (.iconst 1, 1) := by decide +kernel
theorem d_M_addPattern_146 : decode b_M_addPattern 146 = .ok (.iadd, 1) := by decide +kernel
theorem d_M_addPattern_147 : decode b_M_addPattern 147 = .ok (.iastore, 1) := by decide +kernel
theorem d_M_addPattern_148 : decode b_M_addPattern 148 = .ok (.return_, 1) := by decide +kernel
theorem d_M_readPatterns_0 : decode b_M_readPatterns 0 = .ok (.aload_n 0, 1) := by decide +kernel
theorem d_M_readPatterns_1 : decode b_M_readPatterns 1 = .ok (.iconst 0, 1) := by decide +kernel
theorem d_M_readPatterns_2 : decode b_M_readPatterns 2 = .ok (.putfield 90, 3) := by decide +kernel
theorem d_M_readPatterns_5 : decode b_M_readPatterns 5 = .ok (.aload_n 0, 1) := by decide +kernel
theorem d_M_readPatterns_6 : decode b_M_readPatterns 6 = .ok (.invokevirtual 117, 3) := by decide +kernel
theorem d_M_readPatterns_9 : decode b_M_readPatterns 9 = .ok (.aload_n 0, 1) := by decide +kernel
theorem d_M_readPatterns_10 : decode b_M_readPatterns 10 = .ok (.getfield 90, 3) := by decide +kernel
theorem d_M_readPatterns_13 : decode b_M_readPatterns 13 = .ok (.aload_n 0, 1) := by decide +kernel
theorem d_M_readPatterns_14 : decode b_M_readPatterns 14 = .ok (.getfield 81, 3) := by decide +kernel
theorem d_M_readPatterns_17 : decode b_M_readPatterns 17 = .ok (.if_icmp .ge 116, 3) := by decide +kernel
theorem d_M_readPatterns_20 : decode b_M_readPatterns 20 = .ok (.aload_n 0, 1) := by decide +kernel
theorem d_M_readPatterns_21 : decode b_M_readPatterns 21 = .ok (.getfield 90, 3) := by decide +kernel
theorem d_M_readPatterns_24 : decode b_M_readPatterns 24 = .ok (.istore_n 1, 1) := by decide +kernel
theorem d_M_readPatterns_25 : decode b_M_readPatterns 25 = .ok (.aload_n 0, 1) := by decide +kernel
theorem d_M_readPatterns_26 : decode b_M_readPatterns 26 = .ok (.invokevirtual 120, 3) := by decide +kernel
theorem d_M_readPatterns_29 : decode b_M_readPatterns 29 = .ok (.ifCond .ne 12, 3) := by decide +kernel
theorem d_M_readPatterns_32 : decode b_M_readPatterns 32 = .ok (.iconst 1, 1) := by decide +kernel
theorem d_M_readPatterns_33 : decode b_M_readPatterns 33 = .ok (.aload_n 0, 1) := by decide +kernel
theorem d_M_readPatterns_34 : decode b_M_readPatterns 34 = .ok (.getfield 90, 3) := by decide +kernel
theorem d_M_readPatterns_37 : decode b_M_readPatterns 37 = .ok (.invokestatic 123, 3) := by decide +kernel
theorem d_M_readPatterns_40 : decode b_M_readPatterns 40 = .ok (.ireturn, 1) := by decide +kernel
theorem d_M_readPatterns_41 : decode b_M_readPatterns 41 = .ok (.aload_n 0, 1) := by decide +kernel
theorem d_M_readPatterns_42 : decode b_M_readPatterns 42 = .ok (.getfield 93, 3) := by decide +kernel
theorem d_M_readPatterns_45 : decode b_M_readPatterns 45 = .ok (.bipush 63, 2) := by decide +kernel
theorem d_M_readPatterns_47 : decode b_M_readPatterns 47 = .ok (.if_icmp .le 9, 3) := by decide +kernel
theorem d_M_readPatterns_50 : decode b_M_readPatterns 50 = .ok (.iconst 2, 1) := by decide +kernel
theorem d_M_readPatterns_51 : decode b_M_readPatterns 51 = .ok (.iload_n 1, 1) := by decide +kernel
theorem d_M_readPatterns_52 : decode b_M_readPatterns 52 = .ok (.invokestatic 123, 3) := by decide +kernel
theorem d_M_readPatterns_55 : decode b_M_readPatterns 55 = .ok (.ireturn, 1) := by decide +kernel
theorem d_M_readPatterns_56 : decode b_M_readPatterns 56 = .ok (.iconst 0, 1) := by decide +kernel
theorem d_M_readPatterns_57 : decode b_M_readPatterns 57 = .ok (.istore_n 2, 1) := by decide +kernel
theorem d_M_readPatterns_58 : decode b_M_readPatterns 58 = .ok (.iload_n 2, 1) := by decide +kernel
theorem d_M_readPatterns_59 : decode b_M_readPatterns 59 = .ok (.aload_n 0, 1) := by decide +kernel
theorem d_M_readPatterns_60 : decode b_M_readPatterns 60 = .ok (.getfield 114, 3) := by decide +kernel
theorem d_M_readPatterns_63 : decode b_M_readPatterns 63 = .ok (.if_icmp .ge 23, 3) := by decide +kernel
theorem d_M_readPatterns_66 : decode b_M_readPatterns 66 = .ok (.aload_n 0, 1) := by decide +kernel
theorem d_M_readPatterns_67 : decode b_M_readPatterns 67 = .ok (.iload_n 2, 1) := by decide +kernel
theorem d_M_readPatterns_68 : decode b_M_readPatterns 68 = .ok (.invokevirtual 127, 3) := by decide +kernel
theorem d_M_readPatterns_71 : decode b_M_readPatterns 71 = .ok (.ifCond .eq 9, 3) := by decide +kernel
theorem d_M_readPatterns_74 : decode b_M_readPatterns 74 = .ok (.iconst 3, 1) := by decide +kernel
theorem d_M_readPatterns_75 : decode b_M_readPatterns 75 = .ok (.iload_n 1, 1) := by decide +kernel
theorem d_M_readPatterns_76 : decode b_M_readPatterns 76 = .ok (.invokestatic 123, 3) := by decide +kernel
theorem d_M_readPatterns_79 : decode b_M_readPatterns 79 = .ok (.ireturn, 1) := by decide +kernel
theorem d_M_readPatterns_80 : decode b_M_readPatterns 80 = .ok (.iinc 2 1, 3) := by decide +kernel
theorem d_M_readPatterns_83 : decode b_M_readPatterns 83 = .ok (.goto (-25), 3) := by decide +kernel
theorem d_M_readPatterns_86 : decode b_M_readPatterns 86 = .ok (.aload_n 0, 1) := by decide +kernel
theorem d_M_readPatterns_87 : decode b_M_readPatterns 87 = .ok (.getfield 114, 3) := by decide +kernel
theorem d_M_readPatterns_90 : decode b_M_readPatterns 90 = .ok (.sipush 1000, 3) := by decide +kernel
theorem d_M_readPatterns_93 : decode b_M_readPatterns 93 = .ok (.if_icmp .eq 23, 3) := by decide +kernel
theorem d_M_readPatterns_96 : decode b_M_readPatterns 96 = .ok (.aload_n 0, 1) := by decide +kernel
theorem d_M_readPatterns_97 : decode b_M_readPatterns 97 = .ok (.getfield 23, 3) := by decide +kernel
theorem d_M_readPatterns_100 : decode b_M_readPatterns 100 = .ok (.aload_n 0, 1) := by decide +kernel
theorem d_M_readPatterns_101 : decode b_M_readPatterns 101 = .ok (.getfield 114, 3) := by decide +kernel
theorem d_M_readPatterns_104 : decode b_M_readPatterns 104 = .ok (.iaload, 1) := by decide +kernel
theorem d_M_readPatterns_105 : decode b_M_readPatterns 105 = .ok (.aload_n 0, 1) := by decide +kernel
theorem d_M_readPatterns_106 : decode b_M_readPatterns 106 = .ok (.getfield 93, 3) := by decide +kernel
theorem d_M_readPatterns_109 : decode b_M_readPatterns 109 = .ok (.iadd, 1) := by decide +kernel
theorem d_M_readPatterns_110 : decode b_M_readPatterns 110 = .ok (.sipush 8000, 3) := by decide +kernel
theorem d_M_readPatterns_113 : decode b_M_readPatterns 113 = .ok (.if_icmp .le 9, 3) := by decide +kernel
theorem d_M_readPatterns_116 : decode b_M_readPatterns 116 = .ok (.iconst 4, 1) := by decide +kernel
theorem d_M_readPatterns_117 : decode b_M_readPatterns 117 = .ok (.iload_n 1, 1) := by decide +kernel
theorem d_M_readPatterns_118 : decode b_M_readPatterns 118 = .ok (.invokestatic 123, 3) := by decide +kernel
theorem d_M_readPatterns_121 : decode b_M_readPatterns 121 = .ok (.ireturn, 1) := by decide +kernel
theorem d_M_readPatterns_122 : decode b_M_readPatterns 122 = .ok (.aload_n 0, 1) := by decide +kernel
theorem d_M_readPatterns_123 : decode b_M_readPatterns 123 = .ok (.invokevirtual 130, 3) := by decide +kernel
theorem d_M_readPatterns_126 : decode b_M_readPatterns 126 = .ok (.aload_n 0, 1) := by decide +kernel
theorem d_M_readPatterns_127 : decode b_M_readPatterns 127 = .ok (.invokevirtual 117, 3) := by decide +kernel
theorem d_M_readPatterns_130 : decode b_M_readPatterns 130 = .ok (.goto (-121), 3) := by decide +kernel
theorem d_M_readPatterns_133 : decode b_M_readPatterns 133 = .ok (.iconst 0, 1) := by decide +kernel
theorem d_M_readPatterns_134 : decode b_M_readPatterns 134 = .ok (.ireturn, 1) := by decide +kernel
theorem d_M_patterns_0 : decode b_M_patterns 0 = .ok (.aload_n 0, 1) := by decide +kernel
theorem d_M_patterns_1 : decode b_M_patterns 1 = .ok (.getfield 114, 3) := by decide +kernel
theorem d_M_patterns_4 : decode b_M_patterns 4 = .ok (.istore_n 1, 1) := by decide +kernel
theorem d_M_patterns_5 : decode b_M_patterns 5 = .ok (.aload_n 0, 1) := by decide +kernel
theorem d_M_patterns_6 : decode b_M_patterns 6 = .ok (.invokevirtual 133, 3) := by decide +kernel
theorem d_M_patterns_9 : decode b_M_patterns 9 = .ok (.istore_n 2, 1) := by decide +kernel
theorem d_M_patterns_10 : decode b_M_patterns 10 = .ok (.aload_n 0, 1) := by decide +kernel
theorem d_M_patterns_11 : decode b_M_patterns 11 = .ok (.iconst 0, 1) := by decide +kernel
theorem d_M_patterns_12 : decode b_M_patterns 12 = .ok (.putfield 81, 3) := by decide +kernel
theorem d_M_patterns_15 : decode b_M_patterns 15 = .ok (.iload_n 2, 1) := by decide +kernel
theorem d_M_patterns_16 : decode b_M_patterns 16 = .ok (.ifCond .ge 10, 3) := by decide +kernel
theorem d_M_patterns_19 : decode b_M_patterns 19 = .ok (.aload_n 0, 1) := by decide +kernel
theorem d_M_patterns_20 : decode b_M_patterns 20 = .ok (.iload_n 1, 1) := by decide +kernel
theorem d_M_patterns_21 : decode b_M_patterns 21 = .ok (.putfield 114, 3) := by decide +kernel
theorem d_M_patterns_24 : decode b_M_patterns 24 = .ok (.iload_n 2, 1) := by decide +kernel
theorem d_M_patterns_25 : decode b_M_patterns 25 = .ok (.ireturn, 1) := by decide +kernel
theorem d_M_patterns_26 : decode b_M_patterns 26 = .ok (.aload_n 0, 1) := by decide +kernel
theorem d_M_patterns_27 : decode b_M_patterns 27 = .ok (.getfield 114, 3) := by decide +kernel
theorem d_M_patterns_30 : decode b_M_patterns 30 = .ok (.iload_n 1, 1) := by decide +kernel
theorem d_M_patterns_31 : decode b_M_patterns 31 = .ok (.isub, 1) := by decide +kernel
theorem d_M_patterns_32 : decode b_M_patterns 32 = .ok (.ireturn, 1) := by decide +kernel
theorem d_M_readWord_0 : decode b_M_readWord 0 = .ok (.aload_n 0, 1) := by decide +kernel
theorem d_M_readWord_1 : decode b_M_readWord 1 = .ok (.iconst 0, 1) := by decide +kernel
theorem d_M_readWord_2 : decode b_M_readWord 2 = .ok (.putfield 93, 3) := by decide +kernel
theorem d_M_readWord_5 : decode b_M_readWord 5 = .ok (.iconst 0, 1) := by decide +kernel
theorem d_M_readWord_6 : decode b_M_readWord 6 = .ok (.istore_n 1, 1) := by decide +kernel
theorem d_M_readWord_7 : decode b_M_readWord 7 = .ok (.aload_n 0, 1) := by decide +kernel
theorem d_M_readWord_8 : decode b_M_readWord 8 = .ok (.invokevirtual 107, 3) := by decide +kernel
theorem d_M_readWord_11 : decode b_M_readWord 11 = .ok (.ifCond .eq 56, 3) := by decide +kernel
theorem d_M_readWord_14 : decode b_M_readWord 14 = .ok (.aload_n 0, 1) := by decide +kernel
theorem d_M_readWord_15 : decode b_M_readWord 15 = .ok (.getfield 51, 3) := by decide +kernel
theorem d_M_readWord_18 : decode b_M_readWord 18 = .ok (.aload_n 0, 1) := by decide +kernel
theorem d_M_readWord_19 : decode b_M_readWord 19 = .ok (.getfield 93, 3) := by decide +kernel
theorem d_M_readWord_22 : decode b_M_readWord 22 = .ok (.aload_n 0, 1) := by decide +kernel
theorem d_M_readWord_23 : decode b_M_readWord 23 = .ok (.getfield 7, 3) := by decide +kernel
theorem d_M_readWord_26 : decode b_M_readWord 26 = .ok (.aload_n 0, 1) := by decide +kernel
theorem d_M_readWord_27 : decode b_M_readWord 27 = .ok (.invokevirtual 96, 3) := by decide +kernel
theorem d_M_readWord_30 : decode b_M_readWord 30 = .ok (.iaload, 1) := by decide +kernel
theorem d_M_readWord_31 : decode b_M_readWord 31 = .ok (.iastore, 1) := by decide +kernel
theorem d_M_readWord_32 : decode b_M_readWord 32 = .ok (.aload_n 0, 1) := by decide +kernel
theorem d_M_readWord_33 : decode b_M_readWord 33 = .ok (.getfield 57, 3) := by decide +kernel
theorem d_M_readWord_36 : decode b_M_readWord 36 = .ok (.aload_n 0, 1) := by decide +kernel
theorem d_M_readWord_37 : decode b_M_readWord 37 = .ok (.getfield 93, 3) := by decide +kernel
theorem d_M_readWord_40 : decode b_M_readWord 40 = .ok (.iconst 0, 1) := by decide +kernel
theorem d_M_readWord_41 : decode b_M_readWord 41 = .ok (.bastore, 1) := by decide +kernel
theorem d_M_readWord_42 : decode b_M_readWord 42 = .ok (.aload_n 0, 1) := by decide +kernel
theorem d_M_readWord_43 : decode b_M_readWord 43 = .ok (.dup, 1) := by decide +kernel
theorem d_M_readWord_44 : decode b_M_readWord 44 = .ok (.getfield 93, 3) := by decide +kernel
theorem d_M_readWord_47 : decode b_M_readWord 47 = .ok (.iconst 1, 1) := by decide +kernel
theorem d_M_readWord_48 : decode b_M_readWord 48 = .ok (.iadd, 1) := by decide +kernel
theorem d_M_readWord_49 : decode b_M_readWord 49 = .ok (.putfield 93, 3) := by decide +kernel
theorem d_M_readWord_52 : decode b_M_readWord 52 = .ok (.iconst 0, 1) := by decide +kernel
theorem d_M_readWord_53 : decode b_M_readWord 53 = .ok (.istore_n 1, 1) := by decide +kernel
theorem d_M_readWord_54 : decode b_M_readWord 54 = .ok (.aload_n 0, 1) := by decide +kernel
theorem d_M_readWord_55 : decode b_M_readWord 55 = .ok (.dup, 1) := by decide +kernel
theorem d_M_readWord_56 : decode b_M_readWord 56 = .ok (.getfield 90, 3) := by decide +kernel
theorem d_M_readWord_59 : decode b_M_readWord 59 = .ok (.iconst 1, 1) := by decide +kernel
theorem d_M_readWord_60 : decode b_M_readWord 60 = .ok (.iadd, 1) := by decide +kernel
theorem d_M_readWord_61 : decode b_M_readWord 61 = .ok (.putfield 90, 3) := by decide +kernel
theorem d_M_readWord_64 : decode b_M_readWord 64 = .ok (.goto (-57), 3) := by decide +kernel
theorem d_M_readWord_67 : decode b_M_readWord 67 = .ok (.aload_n 0, 1) := by decide +kernel
theorem d_M_readWord_68 : decode b_M_readWord 68 = .ok (.invokevirtual 96, 3) := by decide +kernel
theorem d_M_readWord_71 : decode b_M_readWord 71 = .ok (.bipush 45, 2) := by decide +kernel
theorem d_M_readWord_73 : decode b_M_readWord 73 = .ok (.if_icmp .ne 41, 3) := by decide +kernel
theorem d_M_readWord_76 : decode b_M_readWord 76 = .ok (.aload_n 0, 1) := by decide +kernel
theorem d_M_readWord_77 : decode b_M_readWord 77 = .ok (.getfield 93, 3) := by decide +kernel
theorem d_M_readWord_80 : decode b_M_readWord 80 = .ok (.ifCond .le 34, 3) := by decide +kernel
theorem d_M_readWord_83 : decode b_M_readWord 83 = .ok (.iload_n 1, 1) := by decide +kernel
theorem d_M_readWord_84 : decode b_M_readWord 84 = .ok (.ifCond .ne 30, 3) := by decide +kernel
theorem d_M_readWord_87 : decode b_M_readWord 87 = .ok (.aload_n 0, 1) := by decide +kernel
theorem d_M_readWord_88 : decode b_M_readWord 88 = .ok (.getfield 57, 3) := by decide +kernel
theorem d_M_readWord_91 : decode b_M_readWord 91 = .ok (.aload_n 0, 1) := by decide +kernel
theorem d_M_readWord_92 : decode b_M_readWord 92 = .ok (.getfield 93, 3) := by decide +kernel
theorem d_M_readWord_95 : decode b_M_readWord 95 = .ok (.iconst 1, 1) := by decide +kernel
theorem d_M_readWord_96 : decode b_M_readWord 96 = .ok (.isub, 1) := by decide +kernel
theorem d_M_readWord_97 : decode b_M_readWord 97 = .ok (.iconst 1, 1) := by decide +kernel
theorem d_M_readWord_98 : decode b_M_readWord 98 = .ok (.bastore, 1) := by decide +kernel
theorem d_M_readWord_99 : decode b_M_readWord 99 = .ok (.iconst 1, 1) := by decide +kernel
theorem d_M_readWord_100 : decode b_M_readWord 100 = .ok (.istore_n 1, 1) := by decide +kernel
theorem d_M_readWord_101 : decode b_M_readWord 101 = .ok (.aload_n 0, 1) := by decide +kernel
theorem d_M_readWord_102 : decode b_M_readWord 102 = .ok (.dup, 1) := by decide +kernel
theorem d_M_readWord_103 : decode b_M_readWord 103 = .ok (.getfield 90, 3) := by decide +kernel
theorem d_M_readWord_106 : decode b_M_readWord 106 = .ok (.iconst 1, 1) := by decide +kernel
theorem d_M_readWord_107 : decode b_M_readWord 107 = .ok (.iadd, 1) := by decide +kernel
theorem d_M_readWord_108 : decode b_M_readWord 108 = .ok (.putfield 90, 3) := by decide +kernel
theorem d_M_readWord_111 : decode b_M_readWord 111 = .ok (.goto (-104), 3) := by decide +kernel
theorem d_M_readWord_114 : decode b_M_readWord 114 = .ok (.aload_n 0, 1) := by decide +kernel
theorem d_M_readWord_115 : decode b_M_readWord 115 = .ok (.getfield 93, 3) := by decide +kernel
theorem d_M_readWord_118 : decode b_M_readWord 118 = .ok (.ifCond .le 18, 3) := by decide +kernel
theorem d_M_readWord_121 : decode b_M_readWord 121 = .ok (.iload_n 1, 1) := by decide +kernel
theorem d_M_readWord_122 : decode b_M_readWord 122 = .ok (.ifCond .ne 14, 3) := by decide +kernel
theorem d_M_readWord_125 : decode b_M_readWord 125 = .ok (.aload_n 0, 1) := by decide +kernel
theorem d_M_readWord_126 : decode b_M_readWord 126 = .ok (.invokevirtual 111, 3) := by decide +kernel
theorem d_M_readWord_129 : decode b_M_readWord 129 = .ok (.ifCond .eq 7, 3) := by decide +kernel
theorem d_M_readWord_132 : decode b_M_readWord 132 = .ok (.iconst 1, 1) := by decide +kernel
theorem d_M_readWord_133 : decode b_M_readWord 133 = .ok (.goto 4, 3) := by decide +kernel
theorem d_M_readWord_136 : decode b_M_readWord 136 = .ok (.iconst 0, 1) := by decide +kernel
theorem d_M_readWord_137 : decode b_M_readWord 137 = .ok (.ireturn, 1) := by decide +kernel
theorem d_M_toldAt_0 : decode b_M_toldAt 0 = .ok (.iconst 0, 1) := by decide +kernel
theorem d_M_toldAt_1 : decode b_M_toldAt 1 = .ok (.istore_n 3, 1) := by decide +kernel
theorem d_M_toldAt_2 : decode b_M_toldAt 2 = .ok (.iload_n 3, 1) := by decide +kernel
theorem d_M_toldAt_3 : decode b_M_toldAt 3 = .ok (.aload_n 0, 1) := by decide +kernel
theorem d_M_toldAt_4 : decode b_M_toldAt 4 = .ok (.getfield 136, 3) := by decide +kernel
theorem d_M_toldAt_7 : decode b_M_toldAt 7 = .ok (.if_icmp .ge 90, 3) := by decide +kernel
theorem d_M_toldAt_10 : decode b_M_toldAt 10 = .ok (.aload_n 0, 1) := by decide +kernel
theorem d_M_toldAt_11 : decode b_M_toldAt 11 = .ok (.getfield 42, 3) := by decide +kernel
theorem d_M_toldAt_14 : decode b_M_toldAt 14 = .ok (.iload_n 3, 1) := by decide +kernel
theorem d_M_toldAt_15 : decode b_M_toldAt 15 = .ok (.iconst 1, 1) := by decide +kernel
theorem d_M_toldAt_16 : decode b_M_toldAt 16 = .ok (.iadd, 1) := by decide +kernel
theorem d_M_toldAt_17 : decode b_M_toldAt 17 = .ok (.iaload, 1) := by decide +kernel
theorem d_M_toldAt_18 : decode b_M_toldAt 18 = .ok (.aload_n 0, 1) := by decide +kernel
theorem d_M_toldAt_19 : decode b_M_toldAt 19 = .ok (.getfield 42, 3) := by decide +kernel
theorem d_M_toldAt_22 : decode b_M_toldAt 22 = .ok (.iload_n 3, 1) := by decide +kernel
theorem d_M_toldAt_23 : decode b_M_toldAt 23 = .ok (.iaload, 1) := by decide +kernel
theorem d_M_toldAt_24 : decode b_M_toldAt 24 = .ok (.isub, 1) := by decide +kernel
theorem d_M_toldAt_25 : decode b_M_toldAt 25 = .ok (.iload_n 2, 1) := by decide +kernel
theorem d_M_toldAt_26 : decode b_M_toldAt 26 = .ok (.if_icmp .ne 7, 3) := by decide +kernel
theorem d_M_toldAt_29 : decode b_M_toldAt 29 = .ok (.iconst 1, 1) := by decide +kernel
theorem d_M_toldAt_30 : decode b_M_toldAt 30 = .ok (.goto 4, 3) := by decide +kernel
theorem d_M_toldAt_33 : decode b_M_toldAt 33 = .ok (.iconst 0, 1) := by decide +kernel
theorem d_M_toldAt_34 : decode b_M_toldAt 34 = .ok (.istore 4, 2) := by decide +kernel
theorem d_M_toldAt_36 : decode b_M_toldAt 36 = .ok (.iconst 0, 1) := by decide +kernel
theorem d_M_toldAt_37 : decode b_M_toldAt 37 = .ok (.istore 5, 2) := by decide +kernel
theorem d_M_toldAt_39 : decode b_M_toldAt 39 = .ok (.iload 5, 2) := by decide +kernel
theorem d_M_toldAt_41 : decode b_M_toldAt 41 = .ok (.iload_n 2, 1) := by decide +kernel
theorem d_M_toldAt_42 : decode b_M_toldAt 42 = .ok (.if_icmp .ge 42, 3) := by decide +kernel
theorem d_M_toldAt_45 : decode b_M_toldAt 45 = .ok (.iload 4, 2) := by decide +kernel
theorem d_M_toldAt_47 : decode b_M_toldAt 47 = .ok (.ifCond .eq 37, 3) := by decide +kernel
theorem d_M_toldAt_50 : decode b_M_toldAt 50 = .ok (.aload_n 0, 1) := by decide +kernel
theorem d_M_toldAt_51 : decode b_M_toldAt 51 = .ok (.getfield 45, 3) := by decide +kernel
theorem d_M_toldAt_54 : decode b_M_toldAt 54 = .ok (.aload_n 0, 1) := by decide +kernel
theorem d_M_toldAt_55 : decode b_M_toldAt 55 = .ok (.getfield 42, 3) := by decide +kernel
theorem d_M_toldAt_58 : decode b_M_toldAt 58 = .ok (.iload_n 3, 1) := by decide +kernel
theorem d_M_toldAt_59 : decode b_M_toldAt 59 = .ok (.iaload, 1) := by decide +kernel
theorem d_M_toldAt_60 : decode b_M_toldAt 60 = .ok (.iload 5, 2) := by decide +kernel
theorem d_M_toldAt_62 : decode b_M_toldAt 62 = .ok (.iadd, 1) := by decide +kernel
theorem d_M_toldAt_63 : decode b_M_toldAt 63 = .ok (.iaload, 1) := by decide +kernel
theorem d_M_toldAt_64 : decode b_M_toldAt 64 = .ok (.aload_n 1, 1) := by decide +kernel
theorem d_M_toldAt_65 : decode b_M_toldAt 65 = .ok (.iload 5, 2) := by decide +kernel
theorem d_M_toldAt_67 : decode b_M_toldAt 67 = .ok (.iaload, 1) := by decide +kernel
theorem d_M_toldAt_68 : decode b_M_toldAt 68 = .ok (.if_icmp .ne 7, 3) := by decide +kernel
theorem d_M_toldAt_71 : decode b_M_toldAt 71 = .ok (.iconst 1, 1) := by decide +kernel
theorem d_M_toldAt_72 : decode b_M_toldAt 72 = .ok (.goto 4, 3) := by decide +kernel
theorem d_M_toldAt_75 : decode b_M_toldAt 75 = .ok (.iconst 0, 1) := by decide +kernel
theorem d_M_toldAt_76 : decode b_M_toldAt 76 = .ok (.istore 4, 2) := by decide +kernel
theorem d_M_toldAt_78 : decode b_M_toldAt 78 = .ok (.iinc 5 1, 3) := by decide +kernel
theorem d_M_toldAt_81 : decode b_M_toldAt 81 = .ok (.goto (-42), 3) := by decide +kernel
theorem d_M_toldAt_84 : decode b_M_toldAt 84 = .ok (.iload 4, 2) := by decide +kernel
theorem d_M_toldAt_86 : decode b_M_toldAt 86 = .ok (.ifCond .eq 5, 3) := by decide +kernel
theorem d_M_toldAt_89 : decode b_M_toldAt 89 = .ok (.iload_n 3, 1) := by decide +kernel
theorem d_M_toldAt_90 : decode b_M_toldAt 90 = .ok (.ireturn, 1) := by decide +kernel
theorem d_M_toldAt_91 : decode b_M_toldAt 91 = .ok (.iinc 3 1, 3) := by decide +kernel
theorem d_M_toldAt_94 : decode b_M_toldAt 94 = .ok (.goto (-92), 3) := by decide +kernel
theorem d_M_toldAt_97 : decode b_M_toldAt 97 = .ok (.iconst (-1), 1) := by decide +kernel
theorem d_M_toldAt_98 : decode b_M_toldAt 98 = .ok (.ireturn, 1) := by decide +kernel
theorem d_M_readWords_0 : decode b_M_readWords 0 = .ok (.iconst 0, 1) := by decide +kernel
theorem d_M_readWords_1 : decode b_M_readWords 1 = .ok (.istore_n 2, 1) := by decide +kernel
theorem d_M_readWords_2 : decode b_M_readWords 2 = .ok (.aload_n 0, 1) := by decide +kernel
theorem d_M_readWords_3 : decode b_M_readWords 3 = .ok (.iconst 0, 1) := by decide +kernel
theorem d_M_readWords_4 : decode b_M_readWords 4 = .ok (.putfield 90, 3) := by decide +kernel
theorem d_M_readWords_7 : decode b_M_readWords 7 = .ok (.aload_n 0, 1) := by decide +kernel
theorem d_M_readWords_8 : decode b_M_readWords 8 = .ok (.invokevirtual 117, 3) := by decide +kernel
theorem d_M_readWords_11 : decode b_M_readWords 11 = .ok (.aload_n 0, 1) := by decide +kernel
theorem d_M_readWords_12 : decode b_M_readWords 12 = .ok (.getfield 90, 3) := by decide +kernel
theorem d_M_readWords_15 : decode b_M_readWords 15 = .ok (.aload_n 0, 1) := by decide +kernel
theorem d_M_readWords_16 : decode b_M_readWords 16 = .ok (.getfield 81, 3) := by decide +kernel
theorem d_M_readWords_19 : decode b_M_readWords 19 = .ok (.if_icmp .ge 247, 3) := by decide +kernel
theorem d_M_readWords_22 : decode b_M_readWords 22 = .ok (.aload_n 0, 1) := by decide +kernel
theorem d_M_readWords_23 : decode b_M_readWords 23 = .ok (.getfield 90, 3) := by decide +kernel
theorem d_M_readWords_26 : decode b_M_readWords 26 = .ok (.istore_n 3, 1) := by decide +kernel
theorem d_M_readWords_27 : decode b_M_readWords 27 = .ok (.aload_n 0, 1) := by decide +kernel
theorem d_M_readWords_28 : decode b_M_readWords 28 = .ok (.invokevirtual 139, 3) := by decide +kernel
theorem d_M_readWords_31 : decode b_M_readWords 31 = .ok (.ifCond .ne 12, 3) := by decide +kernel
theorem d_M_readWords_34 : decode b_M_readWords 34 = .ok (.iconst 1, 1) := by decide +kernel
theorem d_M_readWords_35 : decode b_M_readWords 35 = .ok (.aload_n 0, 1) := by decide +kernel
theorem d_M_readWords_36 : decode b_M_readWords 36 = .ok (.getfield 90, 3) := by decide +kernel
theorem d_M_readWords_39 : decode b_M_readWords 39 = .ok (.invokestatic 123, 3) := by decide +kernel
theorem d_M_readWords_42 : decode b_M_readWords 42 = .ok (.ireturn, 1) := by decide +kernel
theorem d_M_readWords_43 : decode b_M_readWords 43 = .ok (.aload_n 0, 1) := by decide +kernel
theorem d_M_readWords_44 : decode b_M_readWords 44 = .ok (.getfield 93, 3) := by decide +kernel
theorem d_M_readWords_47 : decode b_M_readWords 47 = .ok (.bipush 63, 2) := by decide +kernel
theorem d_M_readWords_49 : decode b_M_readWords 49 = .ok (.if_icmp .le 9, 3) := by decide +kernel
theorem d_M_readWords_52 : decode b_M_readWords 52 = .ok (.iconst 2, 1) := by decide +kernel
theorem d_M_readWords_53 : decode b_M_readWords 53 = .ok (.iload_n 3, 1) := by decide +kernel
theorem d_M_readWords_54 : decode b_M_readWords 54 = .ok (.invokestatic 123, 3) := by decide +kernel
theorem d_M_readWords_57 : decode b_M_readWords 57 = .ok (.ireturn, 1) := by decide +kernel
theorem d_M_readWords_58 : decode b_M_readWords 58 = .ok (.aload_n 0, 1) := by decide +kernel
theorem d_M_readWords_59 : decode b_M_readWords 59 = .ok (.aload_n 0, 1) := by decide +kernel
theorem d_M_readWords_60 : decode b_M_readWords 60 = .ok (.getfield 51, 3) := by decide +kernel
theorem d_M_readWords_63 : decode b_M_readWords 63 = .ok (.aload_n 0, 1) := by decide +kernel
theorem d_M_readWords_64 : decode b_M_readWords 64 = .ok (.getfield 93, 3) := by decide +kernel
theorem d_M_readWords_67 : decode b_M_readWords 67 = .ok (.invokevirtual 142, 3) := by decide +kernel
theorem d_M_readWords_70 : decode b_M_readWords 70 = .ok (.istore 4, 2) := by decide +kernel
theorem d_M_readWords_72 : decode b_M_readWords 72 = .ok (.iload 4, 2) := by decide +kernel
theorem d_M_readWords_74 : decode b_M_readWords 74 = .ok (.ifCond .ge 138, 3) := by decide +kernel
theorem d_M_readWords_77 : decode b_M_readWords 77 = .ok (.aload_n 0, 1) := by decide +kernel
theorem d_M_readWords_78 : decode b_M_readWords 78 = .ok (.getfield 136, 3) := by decide +kernel
theorem d_M_readWords_81 : decode b_M_readWords 81 = .ok (.sipush 300, 3) := by decide +kernel
theorem d_M_readWords_84 : decode b_M_readWords 84 = .ok (.if_icmp .eq 23, 3) := by decide +kernel
theorem d_M_readWords_87 : decode b_M_readWords 87 = .ok (.aload_n 0, 1) := by decide +kernel
theorem d_M_readWords_88 : decode b_M_readWords 88 = .ok (.getfield 42, 3) := by decide +kernel
theorem d_M_readWords_91 : decode b_M_readWords 91 = .ok (.aload_n 0, 1) := by decide +kernel
theorem d_M_readWords_92 : decode b_M_readWords 92 = .ok (.getfield 136, 3) := by decide +kernel
theorem d_M_readWords_95 : decode b_M_readWords 95 = .ok (.iaload, 1) := by decide +kernel
theorem d_M_readWords_96 : decode b_M_readWords 96 = .ok (.aload_n 0, 1) := by decide +kernel
theorem d_M_readWords_97 : decode b_M_readWords 97 = .ok (.getfield 93, 3) := by decide +kernel
theorem d_M_readWords_100 : decode b_M_readWords 100 = .ok (.iadd, 1) := by decide +kernel
theorem d_M_readWords_101 : decode b_M_readWords 101 = .ok (.sipush 8000, 3) := by decide +kernel
theorem d_M_readWords_104 : decode b_M_readWords 104 = .ok (.if_icmp .le 9, 3) := by decide +kernel
theorem d_M_readWords_107 : decode b_M_readWords 107 = .ok (.iconst 4, 1) := by decide +kernel
theorem d_M_readWords_108 : decode b_M_readWords 108 = .ok (.iload_n 3, 1) := by decide +kernel
theorem d_M_readWords_109 : decode b_M_readWords 109 = .ok (.invokestatic 123, 3) := by decide +kernel
theorem d_M_readWords_112 : decode b_M_readWords 112 = .ok (.ireturn, 1) := by decide +kernel
theorem d_M_readWords_113 : decode b_M_readWords 113 = .ok (.aload_n 0, 1) := by decide +kernel
theorem d_M_readWords_114 : decode b_M_readWords 114 = .ok (.getfield 136, 3) := by decide +kernel
theorem d_M_readWords_117 : decode b_M_readWords 117 = .ok (.istore 4, 2) := by decide +kernel
theorem d_M_readWords_119 : decode b_M_readWords 119 = .ok (.iconst 0, 1) := by decide +kernel
theorem d_M_readWords_120 : decode b_M_readWords 120 = .ok (.istore 5, 2) := by decide +kernel
theorem d_M_readWords_122 : decode b_M_readWords 122 = .ok (.iload 5, 2) := by decide +kernel
theorem d_M_readWords_124 : decode b_M_readWords 124 = .ok (.aload_n 0, 1) := by decide +kernel
theorem d_M_readWords_125 : decode b_M_readWords 125 = .ok (.getfield 93, 3) := by decide +kernel
theorem d_M_readWords_128 : decode b_M_readWords 128 = .ok (.if_icmp .ge 53, 3) := by decide +kernel
theorem d_M_readWords_131 : decode b_M_readWords 131 = .ok (.aload_n 0, 1) := by decide +kernel
theorem d_M_readWords_132 : decode b_M_readWords 132 = .ok (.getfield 45, 3) := by decide +kernel
theorem d_M_readWords_135 : decode b_M_readWords 135 = .ok (.aload_n 0, 1) := by decide +kernel
theorem d_M_readWords_136 : decode b_M_readWords 136 = .ok (.getfield 42, 3) := by decide +kernel
theorem d_M_readWords_139 : decode b_M_readWords 139 = .ok (.iload 4, 2) := by decide +kernel
theorem d_M_readWords_141 : decode b_M_readWords 141 = .ok (.iaload, 1) := by decide +kernel
theorem d_M_readWords_142 : decode b_M_readWords 142 = .ok (.iload 5, 2) := by decide +kernel
theorem d_M_readWords_144 : decode b_M_readWords 144 = .ok (.iadd, 1) := by decide +kernel
theorem d_M_readWords_145 : decode b_M_readWords 145 = .ok (.aload_n 0, 1) := by decide +kernel
theorem d_M_readWords_146 : decode b_M_readWords 146 = .ok (.getfield 51, 3) := by decide +kernel
theorem d_M_readWords_149 : decode b_M_readWords 149 = .ok (.iload 5, 2) := by decide +kernel
theorem d_M_readWords_151 : decode b_M_readWords 151 = .ok (.iaload, 1) := by decide +kernel
theorem d_M_readWords_152 : decode b_M_readWords 152 = .ok (.iastore, 1) := by decide +kernel
theorem d_M_readWords_153 : decode b_M_readWords 153 = .ok (.aload_n 0, 1) := by decide +kernel
theorem d_M_readWords_154 : decode b_M_readWords 154 = .ok (.getfield 48, 3) := by decide +kernel
theorem d_M_readWords_157 : decode b_M_readWords 157 = .ok (.aload_n 0, 1) := by decide +kernel
theorem d_M_readWords_158 : decode b_M_readWords 158 = .ok (.getfield 42, 3) := by decide +kernel
theorem d_M_readWords_161 : decode b_M_readWords 161 = .ok (.iload 4, 2) := by decide +kernel
theorem d_M_readWords_163 : decode b_M_readWords 163 = .ok (.iaload, 1) := by decide +kernel
theorem d_M_readWords_164 : decode b_M_readWords 164 = .ok (.iload 5, 2) := by decide +kernel
theorem d_M_readWords_166 : decode b_M_readWords 166 = .ok (.iadd, 1) := by decide +kernel
theorem d_M_readWords_167 : decode b_M_readWords 167 = .ok (.aload_n 0, 1) := by decide +kernel
theorem d_M_readWords_168 : decode b_M_readWords 168 = .ok (.getfield 57, 3) := by decide +kernel
theorem d_M_readWords_171 : decode b_M_readWords 171 = .ok (.iload 5, 2) := by decide +kernel
theorem d_M_readWords_173 : decode b_M_readWords 173 = .ok (.baload, 1) := by decide +kernel
theorem d_M_readWords_174 : decode b_M_readWords 174 = .ok (.bastore, 1) := by decide +kernel
theorem d_M_readWords_175 : decode b_M_readWords 175 = .ok (.iinc 5 1, 3) := by decide +kernel
theorem d_M_readWords_178 : decode b_M_readWords 178 = .ok (.goto (-56), 3) := by decide +kernel
theorem d_M_readWords_181 : decode b_M_readWords 181 = .ok (.aload_n 0, 1) := by decide +kernel
theorem d_M_readWords_182 : decode b_M_readWords 182 = .ok (.dup, 1) := by decide +kernel
theorem d_M_readWords_183 : decode b_M_readWords 183 = .ok (.getfield 136, 3) := by decide +kernel
theorem d_M_readWords_186 : decode b_M_readWords 186 = .ok (.iconst 1, 1) := by decide +kernel
theorem d_M_readWords_187 : decode b_M_readWords 187 = .ok (.iadd, 1) := by decide +kernel
theorem d_M_readWords_188 : decode b_M_readWords 188 = .ok (.putfield 136, 3) := by decide +kernel
theorem d_M_readWords_191 : decode b_M_readWords 191 = .ok (.aload_n 0, 1) := by decide +kernel
theorem d_M_readWords_192 : decode b_M_readWords 192 = .ok (.getfield 42, 3) := by decide +kernel
theorem d_M_readWords_195 : decode b_M_readWords 195 = .ok (.aload_n 0, 1) := by decide +kernel
theorem d_M_readWords_196 : decode b_M_readWords 196 = .ok (.getfield 136, 3) := by decide +kernel
theorem d_M_readWords_199 : decode b_M_readWords 199 = .ok (.aload_n 0, 1) := by decide +kernel
theorem d_M_readWords_200 : decode b_M_readWords 200 = .ok (.getfield 42, 3) := by decide +kernel
theorem d_M_readWords_203 : decode b_M_readWords 203 = .ok (.iload 4, 2) := by decide +kernel
theorem d_M_readWords_205 : decode b_M_readWords 205 = .ok (.iaload, 1) := by decide +kernel
theorem d_M_readWords_206 : decode b_M_readWords 206 = .ok (.aload_n 0, 1) := by decide +kernel
theorem d_M_readWords_207 : decode b_M_readWords 207 = .ok (.getfield 93, 3) := by decide +kernel
theorem d_M_readWords_210 : decode b_M_readWords 210 = .ok (.iadd, 1) := by decide +kernel
theorem d_M_readWords_211 : decode b_M_readWords 211 = .ok (.iastore, 1) := by decide +kernel
theorem d_M_readWords_212 : decode b_M_readWords 212 = .ok (.iconst 0, 1) := by decide +kernel
theorem d_M_readWords_213 : decode b_M_readWords 213 = .ok (.istore 5, 2) := by decide +kernel
theorem d_M_readWords_215 : decode b_M_readWords 215 = .ok (.iload 5, 2) := by decide +kernel
theorem d_M_readWords_217 : decode b_M_readWords 217 = .ok (.aload_n 0, 1) := by decide +kernel
theorem d_M_readWords_218 : decode b_M_readWords 218 = .ok (.getfield 93, 3) := by decide +kernel
theorem d_M_readWords_221 : decode b_M_readWords 221 = .ok (.if_icmp .ge 35, 3) := by decide +kernel
theorem d_M_readWords_224 : decode b_M_readWords 224 = .ok (.iload_n 1, 1) := by decide +kernel
theorem d_M_readWords_225 : decode b_M_readWords 225 = .ok (.ifCond .eq 31, 3) := by decide +kernel
theorem d_M_readWords_228 : decode b_M_readWords 228 = .ok (.aload_n 0, 1) := by decide +kernel
theorem d_M_readWords_229 : decode b_M_readWords 229 = .ok (.getfield 48, 3) := by decide +kernel
theorem d_M_readWords_232 : decode b_M_readWords 232 = .ok (.aload_n 0, 1) := by decide +kernel
theorem d_M_readWords_233 : decode b_M_readWords 233 = .ok (.getfield 42, 3) := by decide +kernel
theorem d_M_readWords_236 : decode b_M_readWords 236 = .ok (.iload 4, 2) := by decide +kernel
theorem d_M_readWords_238 : decode b_M_readWords 238 = .ok (.iaload, 1) := by decide +kernel
theorem d_M_readWords_239 : decode b_M_readWords 239 = .ok (.iload 5, 2) := by decide +kernel
theorem d_M_readWords_241 : decode b_M_readWords 241 = .ok (.iadd, 1) := by decide +kernel
theorem d_M_readWords_242 : decode b_M_readWords 242 = .ok (.aload_n 0, 1) := by decide +kernel
theorem d_M_readWords_243 : decode b_M_readWords 243 = .ok (.getfield 57, 3) := by decide +kernel
theorem d_M_readWords_246 : decode b_M_readWords 246 = .ok (.iload 5, 2) := by decide +kernel
theorem d_M_readWords_248 : decode b_M_readWords 248 = .ok (.baload, 1) := by decide +kernel
theorem d_M_readWords_249 : decode b_M_readWords 249 = .ok (.bastore, 1) := by decide +kernel
theorem d_M_readWords_250 : decode b_M_readWords 250 = .ok (.iinc 5 1, 3) := by decide +kernel
theorem d_M_readWords_253 : decode b_M_readWords 253 = .ok (.goto (-38), 3) := by decide +kernel
theorem d_M_readWords_256 : decode b_M_readWords 256 = .ok (.iinc 2 1, 3) := by decide +kernel
theorem d_M_readWords_259 : decode b_M_readWords 259 = .ok (.aload_n 0, 1) := by decide +kernel
theorem d_M_readWords_260 : decode b_M_readWords 260 = .ok (.invokevirtual 117, 3) := by decide +kernel
theorem d_M_readWords_263 : decode b_M_readWords 263 = .ok (.goto (-252), 3) := by decide +kernel
theorem d_M_readWords_266 : decode b_M_readWords 266 = .ok (.iload_n 2, 1) := by decide +kernel
theorem d_M_readWords_267 : decode b_M_readWords 267 = .ok (.ireturn, 1) := by decide +kernel
theorem d_M_words_0 : decode b_M_words 0 = .ok (.aload_n 0, 1) := by decide +kernel
theorem d_M_words_1 : decode b_M_words 1 = .ok (.getfield 136, 3) := by decide +kernel
theorem d_M_words_4 : decode b_M_words 4 = .ok (.istore_n 1, 1) := by decide +kernel
theorem d_M_words_5 : decode b_M_words 5 = .ok (.aload_n 0, 1) := by decide +kernel
theorem d_M_words_6 : decode b_M_words 6 = .ok (.iconst 0, 1) := by decide +kernel
theorem d_M_words_7 : decode b_M_words 7 = .ok (.invokevirtual 146, 3) := by decide +kernel
theorem d_M_words_10 : decode b_M_words 10 = .ok (.istore_n 2, 1) := by decide +kernel
theorem d_M_words_11 : decode b_M_words 11 = .ok (.aload_n 0, 1) := by decide +kernel
theorem d_M_words_12 : decode b_M_words 12 = .ok (.iload_n 1, 1) := by decide +kernel
theorem d_M_words_13 : decode b_M_words 13 = .ok (.putfield 136, 3) := by decide +kernel
theorem d_M_words_16 : decode b_M_words 16 = .ok (.iload_n 2, 1) := by decide +kernel
theorem d_M_words_17 : decode b_M_words 17 = .ok (.ifCond .lt 9, 3) := by decide +kernel
theorem d_M_words_20 : decode b_M_words 20 = .ok (.aload_n 0, 1) := by decide +kernel
theorem d_M_words_21 : decode b_M_words 21 = .ok (.iconst 1, 1) := by decide +kernel
theorem d_M_words_22 : decode b_M_words 22 = .ok (.invokevirtual 146, 3) := by decide +kernel
theorem d_M_words_25 : decode b_M_words 25 = .ok (.istore_n 2, 1) := by decide +kernel
theorem d_M_words_26 : decode b_M_words 26 = .ok (.aload_n 0, 1) := by decide +kernel
theorem d_M_words_27 : decode b_M_words 27 = .ok (.iconst 0, 1) := by decide +kernel
theorem d_M_words_28 : decode b_M_words 28 = .ok (.putfield 81, 3) := by decide +kernel
theorem d_M_words_31 : decode b_M_words 31 = .ok (.iload_n 2, 1) := by decide +kernel
theorem d_M_words_32 : decode b_M_words 32 = .ok (.ireturn, 1) := by decide +kernel
