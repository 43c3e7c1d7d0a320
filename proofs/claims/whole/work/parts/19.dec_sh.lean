theorem d_Sh_numbersFrom_0 : decode b_Sh_numbersFrom 0 = .ok (.aload_n 0, 1) := by decide +kernel
theorem d_Sh_numbersFrom_1 : decode b_Sh_numbersFrom 1 = .ok (.getfield 30, 3) := by decide +kernel
theorem d_Sh_numbersFrom_4 : decode b_Sh_numbersFrom 4 = .ok (.iload_n 1, 1) := by decide +kernel
theorem d_Sh_numbersFrom_5 : decode b_Sh_numbersFrom 5 = .ok (.invokevirtual 57, 3) := by decide +kernel
theorem d_Sh_numbersFrom_8 : decode b_Sh_numbersFrom 8 = .ok (.iload_n 1, 1) := by decide +kernel
theorem d_Sh_numbersFrom_9 : decode b_Sh_numbersFrom 9 = .ok (.iadd, 1) := by decide +kernel
theorem d_Sh_numbersFrom_10 : decode b_Sh_numbersFrom 10 = .ok (.ireturn, 1) := by decide +kernel
theorem d_Sh_fits_0 : decode b_Sh_fits 0 = .ok (.aload_n 0, 1) := by decide +kernel
theorem d_Sh_fits_1 : decode b_Sh_fits 1 = .ok (.getfield 33, 3) := by decide +kernel
theorem d_Sh_fits_4 : decode b_Sh_fits 4 = .ok (.iload_n 1, 1) := by decide +kernel
theorem d_Sh_fits_5 : decode b_Sh_fits 5 = .ok (.invokevirtual 57, 3) := by decide +kernel
theorem d_Sh_fits_8 : decode b_Sh_fits 8 = .ok (.istore 4, 2) := by decide +kernel
theorem d_Sh_fits_10 : decode b_Sh_fits 10 = .ok (.aload_n 2, 1) := by decide +kernel
theorem d_Sh_fits_11 : decode b_Sh_fits 11 = .ok (.getfield 48, 3) := by decide +kernel
theorem d_Sh_fits_14 : decode b_Sh_fits 14 = .ok (.iload_n 3, 1) := by decide +kernel
theorem d_Sh_fits_15 : decode b_Sh_fits 15 = .ok (.isub, 1) := by decide +kernel
theorem d_Sh_fits_16 : decode b_Sh_fits 16 = .ok (.istore 5, 2) := by decide +kernel
theorem d_Sh_fits_18 : decode b_Sh_fits 18 = .ok (.aload_n 0, 1) := by decide +kernel
theorem d_Sh_fits_19 : decode b_Sh_fits 19 = .ok (.getfield 36, 3) := by decide +kernel
theorem d_Sh_fits_22 : decode b_Sh_fits 22 = .ok (.iload_n 1, 1) := by decide +kernel
theorem d_Sh_fits_23 : decode b_Sh_fits 23 = .ok (.invokevirtual 57, 3) := by decide +kernel
theorem d_Sh_fits_26 : decode b_Sh_fits 26 = .ok (.istore 6, 2) := by decide +kernel
theorem d_Sh_fits_28 : decode b_Sh_fits 28 = .ok (.iload 4, 2) := by decide +kernel
theorem d_Sh_fits_30 : decode b_Sh_fits 30 = .ok (.iload 5, 2) := by decide +kernel
theorem d_Sh_fits_32 : decode b_Sh_fits 32 = .ok (.if_icmp .le 5, 3) := by decide +kernel
theorem d_Sh_fits_35 : decode b_Sh_fits 35 = .ok (.iconst 0, 1) := by decide +kernel
theorem d_Sh_fits_36 : decode b_Sh_fits 36 = .ok (.ireturn, 1) := by decide +kernel
theorem d_Sh_fits_37 : decode b_Sh_fits 37 = .ok (.iload 6, 2) := by decide +kernel
theorem d_Sh_fits_39 : decode b_Sh_fits 39 = .ok (.iconst 1, 1) := by decide +kernel
theorem d_Sh_fits_40 : decode b_Sh_fits 40 = .ok (.iand, 1) := by decide +kernel
theorem d_Sh_fits_41 : decode b_Sh_fits 41 = .ok (.ifCond .eq 7, 3) := by decide +kernel
theorem d_Sh_fits_44 : decode b_Sh_fits 44 = .ok (.iload_n 3, 1) := by decide +kernel
theorem d_Sh_fits_45 : decode b_Sh_fits 45 = .ok (.ifCond .ne 17, 3) := by decide +kernel
theorem d_Sh_fits_48 : decode b_Sh_fits 48 = .ok (.iload 6, 2) := by decide +kernel
theorem d_Sh_fits_50 : decode b_Sh_fits 50 = .ok (.iconst 2, 1) := by decide +kernel
theorem d_Sh_fits_51 : decode b_Sh_fits 51 = .ok (.iand, 1) := by decide +kernel
theorem d_Sh_fits_52 : decode b_Sh_fits 52 = .ok (.ifCond .eq 12, 3) := by decide +kernel
theorem d_Sh_fits_55 : decode b_Sh_fits 55 = .ok (.iload 4, 2) := by decide +kernel
theorem d_Sh_fits_57 : decode b_Sh_fits 57 = .ok (.iload 5, 2) := by decide +kernel
theorem d_Sh_fits_59 : decode b_Sh_fits 59 = .ok (.if_icmp .eq 5, 3) := by decide +kernel
theorem d_Sh_fits_62 : decode b_Sh_fits 62 = .ok (.iconst 0, 1) := by decide +kernel
theorem d_Sh_fits_63 : decode b_Sh_fits 63 = .ok (.ireturn, 1) := by decide +kernel
theorem d_Sh_fits_64 : decode b_Sh_fits 64 = .ok (.aload_n 0, 1) := by decide +kernel
theorem d_Sh_fits_65 : decode b_Sh_fits 65 = .ok (.getfield 30, 3) := by decide +kernel
theorem d_Sh_fits_68 : decode b_Sh_fits 68 = .ok (.iload_n 1, 1) := by decide +kernel
theorem d_Sh_fits_69 : decode b_Sh_fits 69 = .ok (.invokevirtual 57, 3) := by decide +kernel
theorem d_Sh_fits_72 : decode b_Sh_fits 72 = .ok (.istore 7, 2) := by decide +kernel
theorem d_Sh_fits_74 : decode b_Sh_fits 74 = .ok (.iconst 0, 1) := by decide +kernel
theorem d_Sh_fits_75 : decode b_Sh_fits 75 = .ok (.istore 8, 2) := by decide +kernel
theorem d_Sh_fits_77 : decode b_Sh_fits 77 = .ok (.iload 8, 2) := by decide +kernel
theorem d_Sh_fits_79 : decode b_Sh_fits 79 = .ok (.iload 4, 2) := by decide +kernel
theorem d_Sh_fits_81 : decode b_Sh_fits 81 = .ok (.if_icmp .ge 34, 3) := by decide +kernel
theorem d_Sh_fits_84 : decode b_Sh_fits 84 = .ok (.aload_n 0, 1) := by decide +kernel
theorem d_Sh_fits_85 : decode b_Sh_fits 85 = .ok (.getfield 14, 3) := by decide +kernel
theorem d_Sh_fits_88 : decode b_Sh_fits 88 = .ok (.iload 7, 2) := by decide +kernel
theorem d_Sh_fits_90 : decode b_Sh_fits 90 = .ok (.iload 8, 2) := by decide +kernel
theorem d_Sh_fits_92 : decode b_Sh_fits 92 = .ok (.iadd, 1) := by decide +kernel
theorem d_Sh_fits_93 : decode b_Sh_fits 93 = .ok (.invokevirtual 57, 3) := by decide +kernel
theorem d_Sh_fits_96 : decode b_Sh_fits 96 = .ok (.aload_n 2, 1) := by decide +kernel
theorem d_Sh_fits_97 : decode b_Sh_fits 97 = .ok (.iload_n 3, 1) := by decide +kernel
theorem d_Sh_fits_98 : decode b_Sh_fits 98 = .ok (.iload 8, 2) := by decide +kernel
theorem d_Sh_fits_100 : decode b_Sh_fits 100 = .ok (.iadd, 1) := by decide +kernel
theorem d_Sh_fits_101 : decode b_Sh_fits 101 = .ok (.invokevirtual 57, 3) := by decide +kernel
theorem d_Sh_fits_104 : decode b_Sh_fits 104 = .ok (.if_icmp .eq 5, 3) := by decide +kernel
theorem d_Sh_fits_107 : decode b_Sh_fits 107 = .ok (.iconst 0, 1) := by decide +kernel
theorem d_Sh_fits_108 : decode b_Sh_fits 108 = .ok (.ireturn, 1) := by decide +kernel
theorem d_Sh_fits_109 : decode b_Sh_fits 109 = .ok (.iinc 8 1, 3) := by decide +kernel
theorem d_Sh_fits_112 : decode b_Sh_fits 112 = .ok (.goto (-35), 3) := by decide +kernel
theorem d_Sh_fits_115 : decode b_Sh_fits 115 = .ok (.iconst 1, 1) := by decide +kernel
theorem d_Sh_fits_116 : decode b_Sh_fits 116 = .ok (.ireturn, 1) := by decide +kernel
theorem d_Sh_find_0 : decode b_Sh_find 0 = .ok (.aload_n 0, 1) := by decide +kernel
theorem d_Sh_find_1 : decode b_Sh_find 1 = .ok (.getfield 20, 3) := by decide +kernel
theorem d_Sh_find_4 : decode b_Sh_find 4 = .ok (.aload_n 1, 1) := by decide +kernel
theorem d_Sh_find_5 : decode b_Sh_find 5 = .ok (.iconst 0, 1) := by decide +kernel
theorem d_Sh_find_6 : decode b_Sh_find 6 = .ok (.invokevirtual 57, 3) := by decide +kernel
theorem d_Sh_find_9 : decode b_Sh_find 9 = .ok (.invokevirtual 57, 3) := by decide +kernel
theorem d_Sh_find_12 : decode b_Sh_find 12 = .ok (.istore_n 3, 1) := by decide +kernel
theorem d_Sh_find_13 : decode b_Sh_find 13 = .ok (.iconst 0, 1) := by decide +kernel
theorem d_Sh_find_14 : decode b_Sh_find 14 = .ok (.istore 4, 2) := by decide +kernel
theorem d_Sh_find_16 : decode b_Sh_find 16 = .ok (.iload 4, 2) := by decide +kernel
theorem d_Sh_find_18 : decode b_Sh_find 18 = .ok (.aload_n 0, 1) := by decide +kernel
theorem d_Sh_find_19 : decode b_Sh_find 19 = .ok (.getfield 45, 3) := by decide +kernel
theorem d_Sh_find_22 : decode b_Sh_find 22 = .ok (.if_icmp .ge 74, 3) := by decide +kernel
theorem d_Sh_find_25 : decode b_Sh_find 25 = .ok (.iload_n 3, 1) := by decide +kernel
theorem d_Sh_find_26 : decode b_Sh_find 26 = .ok (.iconst (-1), 1) := by decide +kernel
theorem d_Sh_find_27 : decode b_Sh_find 27 = .ok (.if_icmp .eq 69, 3) := by decide +kernel
theorem d_Sh_find_30 : decode b_Sh_find 30 = .ok (.aload_n 0, 1) := by decide +kernel
theorem d_Sh_find_31 : decode b_Sh_find 31 = .ok (.getfield 33, 3) := by decide +kernel
theorem d_Sh_find_34 : decode b_Sh_find 34 = .ok (.iload_n 3, 1) := by decide +kernel
theorem d_Sh_find_35 : decode b_Sh_find 35 = .ok (.invokevirtual 57, 3) := by decide +kernel
theorem d_Sh_find_38 : decode b_Sh_find 38 = .ok (.aload_n 1, 1) := by decide +kernel
theorem d_Sh_find_39 : decode b_Sh_find 39 = .ok (.getfield 48, 3) := by decide +kernel
theorem d_Sh_find_42 : decode b_Sh_find 42 = .ok (.if_icmp .ne 19, 3) := by decide +kernel
theorem d_Sh_find_45 : decode b_Sh_find 45 = .ok (.aload_n 0, 1) := by decide +kernel
theorem d_Sh_find_46 : decode b_Sh_find 46 = .ok (.getfield 36, 3) := by decide +kernel
theorem d_Sh_find_49 : decode b_Sh_find 49 = .ok (.iload_n 3, 1) := by decide +kernel
theorem d_Sh_find_50 : decode b_Sh_find 50 = .ok (.invokevirtual 57, 3) := by decide +kernel
theorem d_Sh_find_53 : decode b_Sh_find 53 = .ok (.iload_n 2, 1) := by decide +kernel
theorem d_Sh_find_54 : decode b_Sh_find 54 = .ok (.if_icmp .ne 7, 3) := by decide +kernel
theorem d_Sh_find_57 : decode b_Sh_find 57 = .ok (.iconst 1, 1) := by decide +kernel
theorem d_Sh_find_58 : decode b_Sh_find 58 = .ok (.goto 4, 3) := by decide +kernel
theorem d_Sh_find_61 : decode b_Sh_find 61 = .ok (.iconst 0, 1) := by decide +kernel
theorem d_Sh_find_62 : decode b_Sh_find 62 = .ok (.istore 5, 2) := by decide +kernel
theorem d_Sh_find_64 : decode b_Sh_find 64 = .ok (.iload 5, 2) := by decide +kernel
theorem d_Sh_find_66 : decode b_Sh_find 66 = .ok (.ifCond .eq 15, 3) := by decide +kernel
theorem d_Sh_find_69 : decode b_Sh_find 69 = .ok (.aload_n 0, 1) := by decide +kernel
theorem d_Sh_find_70 : decode b_Sh_find 70 = .ok (.iload_n 3, 1) := by decide +kernel
theorem d_Sh_find_71 : decode b_Sh_find 71 = .ok (.aload_n 1, 1) := by decide +kernel
theorem d_Sh_find_72 : decode b_Sh_find 72 = .ok (.iconst 0, 1) := by decide +kernel
theorem d_Sh_find_73 : decode b_Sh_find 73 = .ok (.invokevirtual 68, 3) := by decide +kernel
theorem d_Sh_find_76 : decode b_Sh_find 76 = .ok (.ifCond .eq 5, 3) := by decide +kernel
theorem d_Sh_find_79 : decode b_Sh_find 79 = .ok (.iload_n 3, 1) := by decide +kernel
theorem d_Sh_find_80 : decode b_Sh_find 80 = .ok (.ireturn, 1) := by decide +kernel
theorem d_Sh_find_81 : decode b_Sh_find 81 = .ok (.aload_n 0, 1) := by decide +kernel
theorem d_Sh_find_82 : decode b_Sh_find 82 = .ok (.getfield 39, 3) := by decide +kernel
theorem d_Sh_find_85 : decode b_Sh_find 85 = .ok (.iload_n 3, 1) := by decide +kernel
theorem d_Sh_find_86 : decode b_Sh_find 86 = .ok (.invokevirtual 57, 3) := by decide +kernel
theorem d_Sh_find_89 : decode b_Sh_find 89 = .ok (.istore_n 3, 1) := by decide +kernel
theorem d_Sh_find_90 : decode b_Sh_find 90 = .ok (.iinc 4 1, 3) := by decide +kernel
theorem d_Sh_find_93 : decode b_Sh_find 93 = .ok (.goto (-77), 3) := by decide +kernel
theorem d_Sh_find_96 : decode b_Sh_find 96 = .ok (.iconst (-1), 1) := by decide +kernel
theorem d_Sh_find_97 : decode b_Sh_find 97 = .ok (.ireturn, 1) := by decide +kernel
theorem d_Sh_add_0 : decode b_Sh_add 0 = .ok (.aload_n 0, 1) := by decide +kernel
theorem d_Sh_add_1 : decode b_Sh_add 1 = .ok (.getfield 45, 3) := by decide +kernel
theorem d_Sh_add_4 : decode b_Sh_add 4 = .ok (.aload_n 0, 1) := by decide +kernel
theorem d_Sh_add_5 : decode b_Sh_add 5 = .ok (.getfield 23, 3) := by decide +kernel
theorem d_Sh_add_8 : decode b_Sh_add 8 = .ok (.if_icmp .ge 21, 3) := by decide +kernel
theorem d_Sh_add_11 : decode b_Sh_add 11 = .ok (.aload_n 0, 1) := by decide +kernel
theorem d_Sh_add_12 : decode b_Sh_add 12 = .ok (.getfield 14, 3) := by decide +kernel
theorem d_Sh_add_15 : decode b_Sh_add 15 = .ok (.getfield 48, 3) := by decide +kernel
theorem d_Sh_add_18 : decode b_Sh_add 18 = .ok (.sipush 8000, 3) := by decide +kernel
theorem d_Sh_add_21 : decode b_Sh_add 21 = .ok (.aload_n 1, 1) := by decide +kernel
theorem d_Sh_add_22 : decode b_Sh_add 22 = .ok (.getfield 51, 3) := by decide +kernel
theorem d_Sh_add_25 : decode b_Sh_add 25 = .ok (.isub, 1) := by decide +kernel
theorem d_Sh_add_26 : decode b_Sh_add 26 = .ok (.if_icmp .le 5, 3) := by decide +kernel
theorem d_Sh_add_29 : decode b_Sh_add 29 = .ok (.iconst 0, 1) := by decide +kernel
theorem d_Sh_add_30 : decode b_Sh_add 30 = .ok (.ireturn, 1) := by decide +kernel
theorem d_Sh_add_31 : decode b_Sh_add 31 = .ok (.aload_n 1, 1) := by decide +kernel
theorem d_Sh_add_32 : decode b_Sh_add 32 = .ok (.getfield 56, 3) := by decide +kernel
theorem d_Sh_add_35 : decode b_Sh_add 35 = .ok (.iconst 0, 1) := by decide +kernel
theorem d_Sh_add_36 : decode b_Sh_add 36 = .ok (.invokevirtual 57, 3) := by decide +kernel
theorem d_Sh_add_39 : decode b_Sh_add 39 = .ok (.istore_n 2, 1) := by decide +kernel
theorem d_Sh_add_40 : decode b_Sh_add 40 = .ok (.aload_n 0, 1) := by decide +kernel
theorem d_Sh_add_41 : decode b_Sh_add 41 = .ok (.getfield 30, 3) := by decide +kernel
theorem d_Sh_add_44 : decode b_Sh_add 44 = .ok (.aload_n 0, 1) := by decide +kernel
theorem d_Sh_add_45 : decode b_Sh_add 45 = .ok (.getfield 14, 3) := by decide +kernel
theorem d_Sh_add_48 : decode b_Sh_add 48 = .ok (.getfield 48, 3) := by decide +kernel
theorem d_Sh_add_51 : decode b_Sh_add 51 = .ok (.invokevirtual 42, 3) := by decide +kernel
theorem d_Sh_add_54 : decode b_Sh_add 54 = .ok (.aload_n 0, 1) := by decide +kernel
theorem d_Sh_add_55 : decode b_Sh_add 55 = .ok (.getfield 33, 3) := by decide +kernel
theorem d_Sh_add_58 : decode b_Sh_add 58 = .ok (.aload_n 1, 1) := by decide +kernel
theorem d_Sh_add_59 : decode b_Sh_add 59 = .ok (.getfield 51, 3) := by decide +kernel
theorem d_Sh_add_62 : decode b_Sh_add 62 = .ok (.invokevirtual 42, 3) := by decide +kernel
theorem d_Sh_add_65 : decode b_Sh_add 65 = .ok (.aload_n 0, 1) := by decide +kernel
theorem d_Sh_add_66 : decode b_Sh_add 66 = .ok (.getfield 36, 3) := by decide +kernel
theorem d_Sh_add_69 : decode b_Sh_add 69 = .ok (.aload_n 1, 1) := by decide +kernel
theorem d_Sh_add_70 : decode b_Sh_add 70 = .ok (.getfield 61, 3) := by decide +kernel
theorem d_Sh_add_73 : decode b_Sh_add 73 = .ok (.invokevirtual 42, 3) := by decide +kernel
theorem d_Sh_add_76 : decode b_Sh_add 76 = .ok (.aload_n 0, 1) := by decide +kernel
theorem d_Sh_add_77 : decode b_Sh_add 77 = .ok (.getfield 39, 3) := by decide +kernel
theorem d_Sh_add_80 : decode b_Sh_add 80 = .ok (.aload_n 0, 1) := by decide +kernel
theorem d_Sh_add_81 : decode b_Sh_add 81 = .ok (.getfield 20, 3) := by decide +kernel
theorem d_Sh_add_84 : decode b_Sh_add 84 = .ok (.iload_n 2, 1) := by decide +kernel
theorem d_Sh_add_85 : decode b_Sh_add 85 = .ok (.invokevirtual 57, 3) := by decide +kernel
theorem d_Sh_add_88 : decode b_Sh_add 88 = .ok (.invokevirtual 42, 3) := by decide +kernel
theorem d_Sh_add_91 : decode b_Sh_add 91 = .ok (.aload_n 0, 1) := by decide +kernel
theorem d_Sh_add_92 : decode b_Sh_add 92 = .ok (.getfield 20, 3) := by decide +kernel
theorem d_Sh_add_95 : decode b_Sh_add 95 = .ok (.iload_n 2, 1) := by decide +kernel
theorem d_Sh_add_96 : decode b_Sh_add 96 = .ok (.aload_n 0, 1) := by decide +kernel
theorem d_Sh_add_97 : decode b_Sh_add 97 = .ok (.getfield 45, 3) := by decide +kernel
theorem d_Sh_add_100 : decode b_Sh_add 100 = .ok (.invokevirtual 63, 3) := by decide +kernel
theorem d_Sh_add_103 : decode b_Sh_add 103 = .ok (.aload_n 0, 1) := by decide +kernel
theorem d_Sh_add_104 : decode b_Sh_add 104 = .ok (.getfield 27, 3) := by decide +kernel
theorem d_Sh_add_107 : decode b_Sh_add 107 = .ok (.aload_n 1, 1) := by decide +kernel
theorem d_Sh_add_108 : decode b_Sh_add 108 = .ok (.getfield 67, 3) := by decide +kernel
theorem d_Sh_add_111 : decode b_Sh_add 111 = .ok (.iconst 0, 1) := by decide +kernel
theorem d_Sh_add_112 : decode b_Sh_add 112 = .ok (.invokevirtual 57, 3) := by decide +kernel
theorem d_Sh_add_115 : decode b_Sh_add 115 = .ok (.invokevirtual 42, 3) := by decide +kernel
theorem d_Sh_add_118 : decode b_Sh_add 118 = .ok (.iconst 0, 1) := by decide +kernel
theorem d_Sh_add_119 : decode b_Sh_add 119 = .ok (.istore_n 3, 1) := by decide +kernel
theorem d_Sh_add_120 : decode b_Sh_add 120 = .ok (.iload_n 3, 1) := by decide +kernel
theorem d_Sh_add_121 : decode b_Sh_add 121 = .ok (.aload_n 1, 1) := by decide +kernel
theorem d_Sh_add_122 : decode b_Sh_add 122 = .ok (.getfield 51, 3) := by decide +kernel
theorem d_Sh_add_125 : decode b_Sh_add 125 = .ok (.if_icmp .ge 41, 3) := by decide +kernel
theorem d_Sh_add_128 : decode b_Sh_add 128 = .ok (.aload_n 0, 1) := by decide +kernel
theorem d_Sh_add_129 : decode b_Sh_add 129 = .ok (.getfield 14, 3) := by decide +kernel
theorem d_Sh_add_132 : decode b_Sh_add 132 = .ok (.aload_n 1, 1) := by decide +kernel
theorem d_Sh_add_133 : decode b_Sh_add 133 = .ok (.getfield 56, 3) := by decide +kernel
theorem d_Sh_add_136 : decode b_Sh_add 136 = .ok (.iload_n 3, 1) := by decide +kernel
theorem d_Sh_add_137 : decode b_Sh_add 137 = .ok (.invokevirtual 57, 3) := by decide +kernel
theorem d_Sh_add_140 : decode b_Sh_add 140 = .ok (.invokevirtual 42, 3) := by decide +kernel
theorem d_Sh_add_143 : decode b_Sh_add 143 = .ok (.aload_n 0, 1) := by decide +kernel
theorem d_Sh_add_144 : decode b_Sh_add 144 = .ok (.getfield 27, 3) := by decide +kernel
theorem d_Sh_add_147 : decode b_Sh_add 147 = .ok (.aload_n 1, 1) := by decide +kernel
theorem d_Sh_add_148 : decode b_Sh_add 148 = .ok (.getfield 67, 3) := by decide +kernel
theorem d_Sh_add_151 : decode b_Sh_add 151 = .ok (.iload_n 3, 1) := by decide +kernel
theorem d_Sh_add_152 : decode b_Sh_add 152 = .ok (.iconst 1, 1) := by decide +kernel
theorem d_Sh_add_153 : decode b_Sh_add 153 = .ok (.iadd, 1) := by decide +kernel
theorem d_Sh_add_154 : decode b_Sh_add 154 = .ok (.invokevirtual 57, 3) := by decide +kernel
theorem d_Sh_add_157 : decode b_Sh_add 157 = .ok (.invokevirtual 42, 3) := by decide +kernel
theorem d_Sh_add_160 : decode b_Sh_add 160 = .ok (.iinc 3 1, 3) := by decide +kernel
theorem d_Sh_add_163 : decode b_Sh_add 163 = .ok (.goto (-43), 3) := by decide +kernel
theorem d_Sh_add_166 : decode b_Sh_add 166 = .ok (.aload_n 0, 1) := by decide +kernel
theorem d_Sh_add_167 : decode b_Sh_add 167 = .ok (.dup, 1) := by decide +kernel
theorem d_Sh_add_168 : decode b_Sh_add 168 = .ok (.getfield 45, 3) := by decide +kernel
theorem d_Sh_add_171 : decode b_Sh_add 171 = .ok (.iconst 1, 1) := by decide +kernel
theorem d_Sh_add_172 : decode b_Sh_add 172 = .ok (.iadd, 1) := by decide +kernel
theorem d_Sh_add_173 : decode b_Sh_add 173 = .ok (.putfield 45, 3) := by decide +kernel
theorem d_Sh_add_176 : decode b_Sh_add 176 = .ok (.iconst 1, 1) := by decide +kernel
theorem d_Sh_add_177 : decode b_Sh_add 177 = .ok (.ireturn, 1) := by decide +kernel
theorem d_Sh_renumber_0 : decode b_Sh_renumber 0 = .ok (.aload_n 0, 1) := by decide +kernel
theorem d_Sh_renumber_1 : decode b_Sh_renumber 1 = .ok (.iload_n 1, 1) := by decide +kernel
theorem d_Sh_renumber_2 : decode b_Sh_renumber 2 = .ok (.invokevirtual 72, 3) := by decide +kernel
theorem d_Sh_renumber_5 : decode b_Sh_renumber 5 = .ok (.istore_n 3, 1) := by decide +kernel
theorem d_Sh_renumber_6 : decode b_Sh_renumber 6 = .ok (.aload_n 0, 1) := by decide +kernel
theorem d_Sh_renumber_7 : decode b_Sh_renumber 7 = .ok (.getfield 33, 3) := by decide +kernel
theorem d_Sh_renumber_10 : decode b_Sh_renumber 10 = .ok (.iload_n 1, 1) := by decide +kernel
theorem d_Sh_renumber_11 : decode b_Sh_renumber 11 = .ok (.invokevirtual 57, 3) := by decide +kernel
theorem d_Sh_renumber_14 : decode b_Sh_renumber 14 = .ok (.istore 4, 2) := by decide +kernel
theorem d_Sh_renumber_16 : decode b_Sh_renumber 16 = .ok (.iconst 0, 1) := by decide +kernel
theorem d_Sh_renumber_17 : decode b_Sh_renumber 17 = .ok (.istore 5, 2) := by decide +kernel
theorem d_Sh_renumber_19 : decode b_Sh_renumber 19 = .ok (.iload 5, 2) := by decide +kernel
theorem d_Sh_renumber_21 : decode b_Sh_renumber 21 = .ok (.iload 4, 2) := by decide +kernel
theorem d_Sh_renumber_23 : decode b_Sh_renumber 23 = .ok (.if_icmp .gt 26, 3) := by decide +kernel
theorem d_Sh_renumber_26 : decode b_Sh_renumber 26 = .ok (.aload_n 0, 1) := by decide +kernel
theorem d_Sh_renumber_27 : decode b_Sh_renumber 27 = .ok (.getfield 27, 3) := by decide +kernel
theorem d_Sh_renumber_30 : decode b_Sh_renumber 30 = .ok (.iload_n 3, 1) := by decide +kernel
theorem d_Sh_renumber_31 : decode b_Sh_renumber 31 = .ok (.iload 5, 2) := by decide +kernel
theorem d_Sh_renumber_33 : decode b_Sh_renumber 33 = .ok (.iadd, 1) := by decide +kernel
theorem d_Sh_renumber_34 : decode b_Sh_renumber 34 = .ok (.aload_n 2, 1) := by decide +kernel
theorem d_Sh_renumber_35 : decode b_Sh_renumber 35 = .ok (.iload 5, 2) := by decide +kernel
theorem d_Sh_renumber_37 : decode b_Sh_renumber 37 = .ok (.invokevirtual 57, 3) := by decide +kernel
theorem d_Sh_renumber_40 : decode b_Sh_renumber 40 = .ok (.invokevirtual 63, 3) := by decide +kernel
theorem d_Sh_renumber_43 : decode b_Sh_renumber 43 = .ok (.iinc 5 1, 3) := by decide +kernel
theorem d_Sh_renumber_46 : decode b_Sh_renumber 46 = .ok (.goto (-27), 3) := by decide +kernel
theorem d_Sh_renumber_49 : decode b_Sh_renumber 49 = .ok (.return_, 1) := by decide +kernel
theorem d_Sh_raise_0 : decode b_Sh_raise 0 = .ok (.aload_n 0, 1) := by decide +kernel
theorem d_Sh_raise_1 : decode b_Sh_raise 1 = .ok (.iload_n 1, 1) := by decide +kernel
theorem d_Sh_raise_2 : decode b_Sh_raise 2 = .ok (.invokevirtual 72, 3) := by decide +kernel
theorem d_Sh_raise_5 : decode b_Sh_raise 5 = .ok (.istore 4, 2) := by decide +kernel
theorem d_Sh_raise_7 : decode b_Sh_raise 7 = .ok (.aload_n 0, 1) := by decide +kernel
theorem d_Sh_raise_8 : decode b_Sh_raise 8 = .ok (.getfield 33, 3) := by decide +kernel
theorem d_Sh_raise_11 : decode b_Sh_raise 11 = .ok (.iload_n 1, 1) := by decide +kernel
theorem d_Sh_raise_12 : decode b_Sh_raise 12 = .ok (.invokevirtual 57, 3) := by decide +kernel
theorem d_Sh_raise_15 : decode b_Sh_raise 15 = .ok (.istore 5, 2) := by decide +kernel
theorem d_Sh_raise_17 : decode b_Sh_raise 17 = .ok (.iconst 0, 1) := by decide +kernel
theorem d_Sh_raise_18 : decode b_Sh_raise 18 = .ok (.istore 6, 2) := by decide +kernel
theorem d_Sh_raise_20 : decode b_Sh_raise 20 = .ok (.iload 6, 2) := by decide +kernel
theorem d_Sh_raise_22 : decode b_Sh_raise 22 = .ok (.iload 5, 2) := by decide +kernel
theorem d_Sh_raise_24 : decode b_Sh_raise 24 = .ok (.if_icmp .gt 40, 3) := by decide +kernel
theorem d_Sh_raise_27 : decode b_Sh_raise 27 = .ok (.aload_n 3, 1) := by decide +kernel
theorem d_Sh_raise_28 : decode b_Sh_raise 28 = .ok (.iload_n 2, 1) := by decide +kernel
theorem d_Sh_raise_29 : decode b_Sh_raise 29 = .ok (.iload 6, 2) := by decide +kernel
theorem d_Sh_raise_31 : decode b_Sh_raise 31 = .ok (.iadd, 1) := by decide +kernel
theorem d_Sh_raise_32 : decode b_Sh_raise 32 = .ok (.aload_n 3, 1) := by decide +kernel
theorem d_Sh_raise_33 : decode b_Sh_raise 33 = .ok (.iload_n 2, 1) := by decide +kernel
theorem d_Sh_raise_34 : decode b_Sh_raise 34 = .ok (.iload 6, 2) := by decide +kernel
theorem d_Sh_raise_36 : decode b_Sh_raise 36 = .ok (.iadd, 1) := by decide +kernel
theorem d_Sh_raise_37 : decode b_Sh_raise 37 = .ok (.invokevirtual 57, 3) := by decide +kernel
theorem d_Sh_raise_40 : decode b_Sh_raise 40 = .ok (.aload_n 0, 1) := by decide +kernel
theorem d_Sh_raise_41 : decode b_Sh_raise 41 = .ok (.getfield 27, 3) := by decide +kernel
theorem d_Sh_raise_44 : decode b_Sh_raise 44 = .ok (.iload 4, 2) := by decide +kernel
theorem d_Sh_raise_46 : decode b_Sh_raise 46 = .ok (.iload 6, 2) := by decide +kernel
theorem d_Sh_raise_48 : decode b_Sh_raise 48 = .ok (.iadd, 1) := by decide +kernel
theorem d_Sh_raise_49 : decode b_Sh_raise 49 = .ok (.invokevirtual 57, 3) := by decide +kernel
theorem d_Sh_raise_52 : decode b_Sh_raise 52 = .ok (.invokestatic 79, 3) := by decide +kernel
theorem d_Sh_raise_55 : decode b_Sh_raise 55 = .ok (.invokevirtual 63, 3) := by decide +kernel
theorem d_Sh_raise_58 : decode b_Sh_raise 58 = .ok (.iinc 6 1, 3) := by decide +kernel
theorem d_Sh_raise_61 : decode b_Sh_raise 61 = .ok (.goto (-41), 3) := by decide +kernel
theorem d_Sh_raise_64 : decode b_Sh_raise 64 = .ok (.return_, 1) := by decide +kernel
theorem d_Sh_raiseAll_0 : decode b_Sh_raiseAll 0 = .ok (.iconst 0, 1) := by decide +kernel
theorem d_Sh_raiseAll_1 : decode b_Sh_raiseAll 1 = .ok (.istore_n 3, 1) := by decide +kernel
theorem d_Sh_raiseAll_2 : decode b_Sh_raiseAll 2 = .ok (.iload_n 3, 1) := by decide +kernel
theorem d_Sh_raiseAll_3 : decode b_Sh_raiseAll 3 = .ok (.aload_n 1, 1) := by decide +kernel
theorem d_Sh_raiseAll_4 : decode b_Sh_raiseAll 4 = .ok (.getfield 48, 3) := by decide +kernel
theorem d_Sh_raiseAll_7 : decode b_Sh_raiseAll 7 = .ok (.if_icmp .ge 77, 3) := by decide +kernel
theorem d_Sh_raiseAll_10 : decode b_Sh_raiseAll 10 = .ok (.aload_n 0, 1) := by decide +kernel
theorem d_Sh_raiseAll_11 : decode b_Sh_raiseAll 11 = .ok (.getfield 20, 3) := by decide +kernel
theorem d_Sh_raiseAll_14 : decode b_Sh_raiseAll 14 = .ok (.aload_n 1, 1) := by decide +kernel
theorem d_Sh_raiseAll_15 : decode b_Sh_raiseAll 15 = .ok (.iload_n 3, 1) := by decide +kernel
theorem d_Sh_raiseAll_16 : decode b_Sh_raiseAll 16 = .ok (.invokevirtual 57, 3) := by decide +kernel
theorem d_Sh_raiseAll_19 : decode b_Sh_raiseAll 19 = .ok (.invokevirtual 57, 3) := by decide +kernel
theorem d_Sh_raiseAll_22 : decode b_Sh_raiseAll 22 = .ok (.istore 4, 2) := by decide +kernel
theorem d_Sh_raiseAll_24 : decode b_Sh_raiseAll 24 = .ok (.iconst 0, 1) := by decide +kernel
theorem d_Sh_raiseAll_25 : decode b_Sh_raiseAll 25 = .ok (.istore 5, 2) := by decide +kernel
theorem d_Sh_raiseAll_27 : decode b_Sh_raiseAll 27 = .ok (.iload 5, 2) := by decide +kernel
theorem d_Sh_raiseAll_29 : decode b_Sh_raiseAll 29 = .ok (.aload_n 0, 1) := by decide +kernel
theorem d_Sh_raiseAll_30 : decode b_Sh_raiseAll 30 = .ok (.getfield 45, 3) := by decide +kernel
theorem d_Sh_raiseAll_33 : decode b_Sh_raiseAll 33 = .ok (.if_icmp .ge 45, 3) := by decide +kernel
theorem d_Sh_raiseAll_36 : decode b_Sh_raiseAll 36 = .ok (.iload 4, 2) := by decide +kernel
theorem d_Sh_raiseAll_38 : decode b_Sh_raiseAll 38 = .ok (.iconst (-1), 1) := by decide +kernel
theorem d_Sh_raiseAll_39 : decode b_Sh_raiseAll 39 = .ok (.if_icmp .eq 39, 3) := by decide +kernel
theorem d_Sh_raiseAll_42 : decode b_Sh_raiseAll 42 = .ok (.aload_n 0, 1) := by decide +kernel
theorem d_Sh_raiseAll_43 : decode b_Sh_raiseAll 43 = .ok (.iload 4, 2) := by decide +kernel
theorem d_Sh_raiseAll_45 : decode b_Sh_raiseAll 45 = .ok (.aload_n 1, 1) := by decide +kernel
theorem d_Sh_raiseAll_46 : decode b_Sh_raiseAll 46 = .ok (.iload_n 3, 1) := by decide +kernel
theorem d_Sh_raiseAll_47 : decode b_Sh_raiseAll 47 = .ok (.invokevirtual 68, 3) := by decide +kernel
theorem d_Sh_raiseAll_50 : decode b_Sh_raiseAll 50 = .ok (.ifCond .eq 11, 3) := by decide +kernel
theorem d_Sh_raiseAll_53 : decode b_Sh_raiseAll 53 = .ok (.aload_n 0, 1) := by decide +kernel
theorem d_Sh_raiseAll_54 : decode b_Sh_raiseAll 54 = .ok (.iload 4, 2) := by decide +kernel
theorem d_Sh_raiseAll_56 : decode b_Sh_raiseAll 56 = .ok (.iload_n 3, 1) := by decide +kernel
theorem d_Sh_raiseAll_57 : decode b_Sh_raiseAll 57 = .ok (.aload_n 2, 1) := by decide +kernel
theorem d_Sh_raiseAll_58 : decode b_Sh_raiseAll 58 = .ok (.invokevirtual 75, 3) := by decide +kernel
theorem d_Sh_raiseAll_61 : decode b_Sh_raiseAll 61 = .ok (.aload_n 0, 1) := by decide +kernel
theorem d_Sh_raiseAll_62 : decode b_Sh_raiseAll 62 = .ok (.getfield 39, 3) := by decide +kernel
theorem d_Sh_raiseAll_65 : decode b_Sh_raiseAll 65 = .ok (.iload 4, 2) := by decide +kernel
theorem d_Sh_raiseAll_67 : decode b_Sh_raiseAll 67 = .ok (.invokevirtual 57, 3) := by decide +kernel
theorem d_Sh_raiseAll_70 : decode b_Sh_raiseAll 70 = .ok (.istore 4, 2) := by decide +kernel
theorem d_Sh_raiseAll_72 : decode b_Sh_raiseAll 72 = .ok (.iinc 5 1, 3) := by decide +kernel
theorem d_Sh_raiseAll_75 : decode b_Sh_raiseAll 75 = .ok (.goto (-48), 3) := by decide +kernel
theorem d_Sh_raiseAll_78 : decode b_Sh_raiseAll 78 = .ok (.iinc 3 1, 3) := by decide +kernel
theorem d_Sh_raiseAll_81 : decode b_Sh_raiseAll 81 = .ok (.goto (-79), 3) := by decide +kernel
theorem d_Sh_raiseAll_84 : decode b_Sh_raiseAll 84 = .ok (.return_, 1) := by decide +kernel
theorem d_Sh_cutTo_0 : decode b_Sh_cutTo 0 = .ok (.aload_n 0, 1) := by decide +kernel
theorem d_Sh_cutTo_1 : decode b_Sh_cutTo 1 = .ok (.getfield 45, 3) := by decide +kernel
theorem d_Sh_cutTo_4 : decode b_Sh_cutTo 4 = .ok (.iconst 1, 1) := by decide +kernel
theorem d_Sh_cutTo_5 : decode b_Sh_cutTo 5 = .ok (.isub, 1) := by decide +kernel
theorem d_Sh_cutTo_6 : decode b_Sh_cutTo 6 = .ok (.istore_n 2, 1) := by decide +kernel
theorem d_Sh_cutTo_7 : decode b_Sh_cutTo 7 = .ok (.iload_n 2, 1) := by decide +kernel
theorem d_Sh_cutTo_8 : decode b_Sh_cutTo 8 = .ok (.iload_n 1, 1) := by decide +kernel
theorem d_Sh_cutTo_9 : decode b_Sh_cutTo 9 = .ok (.if_icmp .lt 98, 3) := by decide +kernel
theorem d_Sh_cutTo_12 : decode b_Sh_cutTo 12 = .ok (.aload_n 0, 1) := by decide +kernel
theorem d_Sh_cutTo_13 : decode b_Sh_cutTo 13 = .ok (.getfield 30, 3) := by decide +kernel
theorem d_Sh_cutTo_16 : decode b_Sh_cutTo 16 = .ok (.iload_n 2, 1) := by decide +kernel
theorem d_Sh_cutTo_17 : decode b_Sh_cutTo 17 = .ok (.invokevirtual 57, 3) := by decide +kernel
theorem d_Sh_cutTo_20 : decode b_Sh_cutTo 20 = .ok (.istore_n 3, 1) := by decide +kernel
theorem d_Sh_cutTo_21 : decode b_Sh_cutTo 21 = .ok (.aload_n 0, 1) := by decide +kernel
theorem d_Sh_cutTo_22 : decode b_Sh_cutTo 22 = .ok (.getfield 20, 3) := by decide +kernel
theorem d_Sh_cutTo_25 : decode b_Sh_cutTo 25 = .ok (.aload_n 0, 1) := by decide +kernel
theorem d_Sh_cutTo_26 : decode b_Sh_cutTo 26 = .ok (.getfield 14, 3) := by decide +kernel
theorem d_Sh_cutTo_29 : decode b_Sh_cutTo 29 = .ok (.iload_n 3, 1) := by decide +kernel
theorem d_Sh_cutTo_30 : decode b_Sh_cutTo 30 = .ok (.invokevirtual 57, 3) := by decide +kernel
theorem d_Sh_cutTo_33 : decode b_Sh_cutTo 33 = .ok (.aload_n 0, 1) := by decide +kernel
theorem d_Sh_cutTo_34 : decode b_Sh_cutTo 34 = .ok (.getfield 39, 3) := by decide +kernel
theorem d_Sh_cutTo_37 : decode b_Sh_cutTo 37 = .ok (.iload_n 2, 1) := by decide +kernel
theorem d_Sh_cutTo_38 : decode b_Sh_cutTo 38 = .ok (.invokevirtual 57, 3) := by decide +kernel
theorem d_Sh_cutTo_41 : decode b_Sh_cutTo 41 = .ok (.invokevirtual 63, 3) := by decide +kernel
theorem d_Sh_cutTo_44 : decode b_Sh_cutTo 44 = .ok (.aload_n 0, 1) := by decide +kernel
theorem d_Sh_cutTo_45 : decode b_Sh_cutTo 45 = .ok (.getfield 27, 3) := by decide +kernel
theorem d_Sh_cutTo_48 : decode b_Sh_cutTo 48 = .ok (.aload_n 0, 1) := by decide +kernel
theorem d_Sh_cutTo_49 : decode b_Sh_cutTo 49 = .ok (.iload_n 2, 1) := by decide +kernel
theorem d_Sh_cutTo_50 : decode b_Sh_cutTo 50 = .ok (.invokevirtual 72, 3) := by decide +kernel
theorem d_Sh_cutTo_53 : decode b_Sh_cutTo 53 = .ok (.invokevirtual 85, 3) := by decide +kernel
theorem d_Sh_cutTo_56 : decode b_Sh_cutTo 56 = .ok (.aload_n 0, 1) := by decide +kernel
theorem d_Sh_cutTo_57 : decode b_Sh_cutTo 57 = .ok (.getfield 14, 3) := by decide +kernel
theorem d_Sh_cutTo_60 : decode b_Sh_cutTo 60 = .ok (.iload_n 3, 1) := by decide +kernel
theorem d_Sh_cutTo_61 : decode b_Sh_cutTo 61 = .ok (.invokevirtual 85, 3) := by decide +kernel
theorem d_Sh_cutTo_64 : decode b_Sh_cutTo 64 = .ok (.aload_n 0, 1) := by decide +kernel
theorem d_Sh_cutTo_65 : decode b_Sh_cutTo 65 = .ok (.getfield 30, 3) := by decide +kernel
theorem d_Sh_cutTo_68 : decode b_Sh_cutTo 68 = .ok (.iload_n 2, 1) := by decide +kernel
theorem d_Sh_cutTo_69 : decode b_Sh_cutTo 69 = .ok (.invokevirtual 85, 3) := by decide +kernel
theorem d_Sh_cutTo_72 : decode b_Sh_cutTo 72 = .ok (.aload_n 0, 1) := by decide +kernel
theorem d_Sh_cutTo_73 : decode b_Sh_cutTo 73 = .ok (.getfield 33, 3) := by decide +kernel
theorem d_Sh_cutTo_76 : decode b_Sh_cutTo 76 = .ok (.iload_n 2, 1) := by decide +kernel
theorem d_Sh_cutTo_77 : decode b_Sh_cutTo 77 = .ok (.invokevirtual 85, 3) := by decide +kernel
theorem d_Sh_cutTo_80 : decode b_Sh_cutTo 80 = .ok (.aload_n 0, 1) := by decide +kernel
theorem d_Sh_cutTo_81 : decode b_Sh_cutTo 81 = .ok (.getfield 36, 3) := by decide +kernel
theorem d_Sh_cutTo_84 : decode b_Sh_cutTo 84 = .ok (.iload_n 2, 1) := by decide +kernel
theorem d_Sh_cutTo_85 : decode b_Sh_cutTo 85 = .ok (.invokevirtual 85, 3) := by decide +kernel
theorem d_Sh_cutTo_88 : decode b_Sh_cutTo 88 = .ok (.aload_n 0, 1) := by decide +kernel
theorem d_Sh_cutTo_89 : decode b_Sh_cutTo 89 = .ok (.getfield 39, 3) := by decide +kernel
theorem d_Sh_cutTo_92 : decode b_Sh_cutTo 92 = .ok (.iload_n 2, 1) := by decide +kernel
theorem d_Sh_cutTo_93 : decode b_Sh_cutTo 93 = .ok (.invokevirtual 85, 3) := by decide +kernel
theorem d_Sh_cutTo_96 : decode b_Sh_cutTo 96 = .ok (.aload_n 0, 1) := by decide +kernel
theorem d_Sh_cutTo_97 : decode b_Sh_cutTo 97 = .ok (.iload_n 2, 1) := by decide +kernel
theorem d_Sh_cutTo_98 : decode b_Sh_cutTo 98 = .ok (.putfield 45, 3) := by decide +kernel
theorem d_Sh_cutTo_101 : decode b_Sh_cutTo 101 = .ok (.iinc 2 (-1), 3) := by decide +kernel
theorem d_Sh_cutTo_104 : decode b_Sh_cutTo 104 = .ok (.goto (-97), 3) := by decide +kernel
theorem d_Sh_cutTo_107 : decode b_Sh_cutTo 107 = .ok (.return_, 1) := by decide +kernel
