theorem d_M_putWord_0 : decode b_M_putWord 0 = .ok (.iload_n 2, 1) := by decide +kernel
theorem d_M_putWord_1 : decode b_M_putWord 1 = .ok (.iload_n 1, 1) := by decide +kernel
theorem d_M_putWord_2 : decode b_M_putWord 2 = .ok (.isub, 1) := by decide +kernel
theorem d_M_putWord_3 : decode b_M_putWord 3 = .ok (.istore_n 3, 1) := by decide +kernel
theorem d_M_putWord_4 : decode b_M_putWord 4 = .ok (.iconst 0, 1) := by decide +kernel
theorem d_M_putWord_5 : decode b_M_putWord 5 = .ok (.istore 4, 2) := by decide +kernel
theorem d_M_putWord_7 : decode b_M_putWord 7 = .ok (.aload_n 0, 1) := by decide +kernel
theorem d_M_putWord_8 : decode b_M_putWord 8 = .ok (.iload_n 3, 1) := by decide +kernel
theorem d_M_putWord_9 : decode b_M_putWord 9 = .ok (.bipush 63, 2) := by decide +kernel
theorem d_M_putWord_11 : decode b_M_putWord 11 = .ok (.if_icmp .le 7, 3) := by decide +kernel
theorem d_M_putWord_14 : decode b_M_putWord 14 = .ok (.iconst 0, 1) := by decide +kernel
theorem d_M_putWord_15 : decode b_M_putWord 15 = .ok (.goto 4, 3) := by decide +kernel
theorem d_M_putWord_18 : decode b_M_putWord 18 = .ok (.iload_n 3, 1) := by decide +kernel
theorem d_M_putWord_19 : decode b_M_putWord 19 = .ok (.putfield 150, 3) := by decide +kernel
theorem d_M_putWord_22 : decode b_M_putWord 22 = .ok (.iconst 0, 1) := by decide +kernel
theorem d_M_putWord_23 : decode b_M_putWord 23 = .ok (.istore 5, 2) := by decide +kernel
theorem d_M_putWord_25 : decode b_M_putWord 25 = .ok (.iload 5, 2) := by decide +kernel
theorem d_M_putWord_27 : decode b_M_putWord 27 = .ok (.aload_n 0, 1) := by decide +kernel
theorem d_M_putWord_28 : decode b_M_putWord 28 = .ok (.getfield 150, 3) := by decide +kernel
theorem d_M_putWord_31 : decode b_M_putWord 31 = .ok (.if_icmp .ge 30, 3) := by decide +kernel
theorem d_M_putWord_34 : decode b_M_putWord 34 = .ok (.aload_n 0, 1) := by decide +kernel
theorem d_M_putWord_35 : decode b_M_putWord 35 = .ok (.getfield 60, 3) := by decide +kernel
theorem d_M_putWord_38 : decode b_M_putWord 38 = .ok (.iload 5, 2) := by decide +kernel
theorem d_M_putWord_40 : decode b_M_putWord 40 = .ok (.aload_n 0, 1) := by decide +kernel
theorem d_M_putWord_41 : decode b_M_putWord 41 = .ok (.getfield 7, 3) := by decide +kernel
theorem d_M_putWord_44 : decode b_M_putWord 44 = .ok (.aload_n 0, 1) := by decide +kernel
theorem d_M_putWord_45 : decode b_M_putWord 45 = .ok (.getfield 20, 3) := by decide +kernel
theorem d_M_putWord_48 : decode b_M_putWord 48 = .ok (.iload_n 1, 1) := by decide +kernel
theorem d_M_putWord_49 : decode b_M_putWord 49 = .ok (.iload 5, 2) := by decide +kernel
theorem d_M_putWord_51 : decode b_M_putWord 51 = .ok (.iadd, 1) := by decide +kernel
theorem d_M_putWord_52 : decode b_M_putWord 52 = .ok (.iaload, 1) := by decide +kernel
theorem d_M_putWord_53 : decode b_M_putWord 53 = .ok (.iaload, 1) := by decide +kernel
theorem d_M_putWord_54 : decode b_M_putWord 54 = .ok (.iastore, 1) := by decide +kernel
theorem d_M_putWord_55 : decode b_M_putWord 55 = .ok (.iinc 5 1, 3) := by decide +kernel
theorem d_M_putWord_58 : decode b_M_putWord 58 = .ok (.goto (-33), 3) := by decide +kernel
theorem d_M_putWord_61 : decode b_M_putWord 61 = .ok (.aload_n 0, 1) := by decide +kernel
theorem d_M_putWord_62 : decode b_M_putWord 62 = .ok (.iconst 0, 1) := by decide +kernel
theorem d_M_putWord_63 : decode b_M_putWord 63 = .ok (.putfield 157, 3) := by decide +kernel
theorem d_M_putWord_66 : decode b_M_putWord 66 = .ok (.aload_n 0, 1) := by decide +kernel
theorem d_M_putWord_67 : decode b_M_putWord 67 = .ok (.getfield 150, 3) := by decide +kernel
theorem d_M_putWord_70 : decode b_M_putWord 70 = .ok (.ifCond .le 7, 3) := by decide +kernel
theorem d_M_putWord_73 : decode b_M_putWord 73 = .ok (.aload_n 0, 1) := by decide +kernel
theorem d_M_putWord_74 : decode b_M_putWord 74 = .ok (.invokevirtual 160, 3) := by decide +kernel
theorem d_M_putWord_77 : decode b_M_putWord 77 = .ok (.iconst 0, 1) := by decide +kernel
theorem d_M_putWord_78 : decode b_M_putWord 78 = .ok (.istore 5, 2) := by decide +kernel
theorem d_M_putWord_80 : decode b_M_putWord 80 = .ok (.iload 5, 2) := by decide +kernel
theorem d_M_putWord_82 : decode b_M_putWord 82 = .ok (.iload_n 3, 1) := by decide +kernel
theorem d_M_putWord_83 : decode b_M_putWord 83 = .ok (.if_icmp .ge 64, 3) := by decide +kernel
theorem d_M_putWord_86 : decode b_M_putWord 86 = .ok (.iload 4, 2) := by decide +kernel
theorem d_M_putWord_88 : decode b_M_putWord 88 = .ok (.aload_n 0, 1) := by decide +kernel
theorem d_M_putWord_89 : decode b_M_putWord 89 = .ok (.getfield 157, 3) := by decide +kernel
theorem d_M_putWord_92 : decode b_M_putWord 92 = .ok (.if_icmp .ge 19, 3) := by decide +kernel
theorem d_M_putWord_95 : decode b_M_putWord 95 = .ok (.aload_n 0, 1) := by decide +kernel
theorem d_M_putWord_96 : decode b_M_putWord 96 = .ok (.getfield 66, 3) := by decide +kernel
theorem d_M_putWord_99 : decode b_M_putWord 99 = .ok (.iload 4, 2) := by decide +kernel
theorem d_M_putWord_101 : decode b_M_putWord 101 = .ok (.iaload, 1) := by decide +kernel
theorem d_M_putWord_102 : decode b_M_putWord 102 = .ok (.iload 5, 2) := by decide +kernel
theorem d_M_putWord_104 : decode b_M_putWord 104 = .ok (.if_icmp .ne 7, 3) := by decide +kernel
theorem d_M_putWord_107 : decode b_M_putWord 107 = .ok (.iconst 1, 1) := by decide +kernel
theorem d_M_putWord_108 : decode b_M_putWord 108 = .ok (.goto 4, 3) := by decide +kernel
theorem d_M_putWord_111 : decode b_M_putWord 111 = .ok (.iconst 0, 1) := by decide +kernel
theorem d_M_putWord_112 : decode b_M_putWord 112 = .ok (.istore 6, 2) := by decide +kernel
theorem d_M_putWord_114 : decode b_M_putWord 114 = .ok (.iload 6, 2) := by decide +kernel
theorem d_M_putWord_116 : decode b_M_putWord 116 = .ok (.ifCond .eq 12, 3) := by decide +kernel
theorem d_M_putWord_119 : decode b_M_putWord 119 = .ok (.aload_n 0, 1) := by decide +kernel
theorem d_M_putWord_120 : decode b_M_putWord 120 = .ok (.bipush 45, 2) := by decide +kernel
theorem d_M_putWord_122 : decode b_M_putWord 122 = .ok (.invokevirtual 166, 3) := by decide +kernel
theorem d_M_putWord_125 : decode b_M_putWord 125 = .ok (.iinc 4 1, 3) := by decide +kernel
theorem d_M_putWord_128 : decode b_M_putWord 128 = .ok (.aload_n 0, 1) := by decide +kernel
theorem d_M_putWord_129 : decode b_M_putWord 129 = .ok (.aload_n 0, 1) := by decide +kernel
theorem d_M_putWord_130 : decode b_M_putWord 130 = .ok (.getfield 20, 3) := by decide +kernel
theorem d_M_putWord_133 : decode b_M_putWord 133 = .ok (.iload_n 1, 1) := by decide +kernel
theorem d_M_putWord_134 : decode b_M_putWord 134 = .ok (.iload 5, 2) := by decide +kernel
theorem d_M_putWord_136 : decode b_M_putWord 136 = .ok (.iadd, 1) := by decide +kernel
theorem d_M_putWord_137 : decode b_M_putWord 137 = .ok (.iaload, 1) := by decide +kernel
theorem d_M_putWord_138 : decode b_M_putWord 138 = .ok (.invokevirtual 166, 3) := by decide +kernel
theorem d_M_putWord_141 : decode b_M_putWord 141 = .ok (.iinc 5 1, 3) := by decide +kernel
theorem d_M_putWord_144 : decode b_M_putWord 144 = .ok (.goto (-64), 3) := by decide +kernel
theorem d_M_putWord_147 : decode b_M_putWord 147 = .ok (.iload 4, 2) := by decide +kernel
theorem d_M_putWord_149 : decode b_M_putWord 149 = .ok (.ireturn, 1) := by decide +kernel
theorem d_M_keep_0 : decode b_M_keep 0 = .ok (.aload_n 0, 1) := by decide +kernel
theorem d_M_keep_1 : decode b_M_keep 1 = .ok (.aload_n 0, 1) := by decide +kernel
theorem d_M_keep_2 : decode b_M_keep 2 = .ok (.getfield 150, 3) := by decide +kernel
theorem d_M_keep_5 : decode b_M_keep 5 = .ok (.putfield 170, 3) := by decide +kernel
theorem d_M_keep_8 : decode b_M_keep 8 = .ok (.aload_n 0, 1) := by decide +kernel
theorem d_M_keep_9 : decode b_M_keep 9 = .ok (.aload_n 0, 1) := by decide +kernel
theorem d_M_keep_10 : decode b_M_keep 10 = .ok (.getfield 157, 3) := by decide +kernel
theorem d_M_keep_13 : decode b_M_keep 13 = .ok (.putfield 173, 3) := by decide +kernel
theorem d_M_keep_16 : decode b_M_keep 16 = .ok (.iconst 0, 1) := by decide +kernel
theorem d_M_keep_17 : decode b_M_keep 17 = .ok (.istore_n 1, 1) := by decide +kernel
theorem d_M_keep_18 : decode b_M_keep 18 = .ok (.iload_n 1, 1) := by decide +kernel
theorem d_M_keep_19 : decode b_M_keep 19 = .ok (.bipush 64, 2) := by decide +kernel
theorem d_M_keep_21 : decode b_M_keep 21 = .ok (.if_icmp .ge 45, 3) := by decide +kernel
theorem d_M_keep_24 : decode b_M_keep 24 = .ok (.aload_n 0, 1) := by decide +kernel
theorem d_M_keep_25 : decode b_M_keep 25 = .ok (.getfield 72, 3) := by decide +kernel
theorem d_M_keep_28 : decode b_M_keep 28 = .ok (.iload_n 1, 1) := by decide +kernel
theorem d_M_keep_29 : decode b_M_keep 29 = .ok (.aload_n 0, 1) := by decide +kernel
theorem d_M_keep_30 : decode b_M_keep 30 = .ok (.getfield 60, 3) := by decide +kernel
theorem d_M_keep_33 : decode b_M_keep 33 = .ok (.iload_n 1, 1) := by decide +kernel
theorem d_M_keep_34 : decode b_M_keep 34 = .ok (.iaload, 1) := by decide +kernel
theorem d_M_keep_35 : decode b_M_keep 35 = .ok (.iastore, 1) := by decide +kernel
theorem d_M_keep_36 : decode b_M_keep 36 = .ok (.aload_n 0, 1) := by decide +kernel
theorem d_M_keep_37 : decode b_M_keep 37 = .ok (.getfield 75, 3) := by decide +kernel
theorem d_M_keep_40 : decode b_M_keep 40 = .ok (.iload_n 1, 1) := by decide +kernel
theorem d_M_keep_41 : decode b_M_keep 41 = .ok (.aload_n 0, 1) := by decide +kernel
theorem d_M_keep_42 : decode b_M_keep 42 = .ok (.getfield 63, 3) := by decide +kernel
theorem d_M_keep_45 : decode b_M_keep 45 = .ok (.iload_n 1, 1) := by decide +kernel
theorem d_M_keep_46 : decode b_M_keep 46 = .ok (.iaload, 1) := by decide +kernel
theorem d_M_keep_47 : decode b_M_keep 47 = .ok (.iastore, 1) := by decide +kernel
theorem d_M_keep_48 : decode b_M_keep 48 = .ok (.aload_n 0, 1) := by decide +kernel
theorem d_M_keep_49 : decode b_M_keep 49 = .ok (.getfield 78, 3) := by decide +kernel
theorem d_M_keep_52 : decode b_M_keep 52 = .ok (.iload_n 1, 1) := by decide +kernel
theorem d_M_keep_53 : decode b_M_keep 53 = .ok (.aload_n 0, 1) := by decide +kernel
theorem d_M_keep_54 : decode b_M_keep 54 = .ok (.getfield 66, 3) := by decide +kernel
theorem d_M_keep_57 : decode b_M_keep 57 = .ok (.iload_n 1, 1) := by decide +kernel
theorem d_M_keep_58 : decode b_M_keep 58 = .ok (.iaload, 1) := by decide +kernel
theorem d_M_keep_59 : decode b_M_keep 59 = .ok (.iastore, 1) := by decide +kernel
theorem d_M_keep_60 : decode b_M_keep 60 = .ok (.iinc 1 1, 3) := by decide +kernel
theorem d_M_keep_63 : decode b_M_keep 63 = .ok (.goto (-45), 3) := by decide +kernel
theorem d_M_keep_66 : decode b_M_keep 66 = .ok (.return_, 1) := by decide +kernel
theorem d_M_bringBack_0 : decode b_M_bringBack 0 = .ok (.aload_n 0, 1) := by decide +kernel
theorem d_M_bringBack_1 : decode b_M_bringBack 1 = .ok (.aload_n 0, 1) := by decide +kernel
theorem d_M_bringBack_2 : decode b_M_bringBack 2 = .ok (.getfield 170, 3) := by decide +kernel
theorem d_M_bringBack_5 : decode b_M_bringBack 5 = .ok (.putfield 150, 3) := by decide +kernel
theorem d_M_bringBack_8 : decode b_M_bringBack 8 = .ok (.aload_n 0, 1) := by decide +kernel
theorem d_M_bringBack_9 : decode b_M_bringBack 9 = .ok (.aload_n 0, 1) := by decide +kernel
theorem d_M_bringBack_10 : decode b_M_bringBack 10 = .ok (.getfield 173, 3) := by decide +kernel
theorem d_M_bringBack_13 : decode b_M_bringBack 13 = .ok (.putfield 157, 3) := by decide +kernel
theorem d_M_bringBack_16 : decode b_M_bringBack 16 = .ok (.iconst 0, 1) := by decide +kernel
theorem d_M_bringBack_17 : decode b_M_bringBack 17 = .ok (.istore_n 1, 1) := by decide +kernel
theorem d_M_bringBack_18 : decode b_M_bringBack 18 = .ok (.iload_n 1, 1) := by decide +kernel
theorem d_M_bringBack_19 : decode b_M_bringBack 19 = .ok (.bipush 64, 2) := by decide +kernel
theorem d_M_bringBack_21 : decode b_M_bringBack 21 = .ok (.if_icmp .ge 45, 3) := by decide +kernel
theorem d_M_bringBack_24 : decode b_M_bringBack 24 = .ok (.aload_n 0, 1) := by decide +kernel
theorem d_M_bringBack_25 : decode b_M_bringBack 25 = .ok (.getfield 60, 3) := by decide +kernel
theorem d_M_bringBack_28 : decode b_M_bringBack 28 = .ok (.iload_n 1, 1) := by decide +kernel
theorem d_M_bringBack_29 : decode b_M_bringBack 29 = .ok (.aload_n 0, 1) := by decide +kernel
theorem d_M_bringBack_30 : decode b_M_bringBack 30 = .ok (.getfield 72, 3) := by decide +kernel
theorem d_M_bringBack_33 : decode b_M_bringBack 33 = .ok (.iload_n 1, 1) := by decide +kernel
theorem d_M_bringBack_34 : decode b_M_bringBack 34 = .ok (.iaload, 1) := by decide +kernel
theorem d_M_bringBack_35 : decode b_M_bringBack 35 = .ok (.iastore, 1) := by decide +kernel
theorem d_M_bringBack_36 : decode b_M_bringBack 36 = .ok (.aload_n 0, 1) := by decide +kernel
theorem d_M_bringBack_37 : decode b_M_bringBack 37 = .ok (.getfield 63, 3) := by decide +kernel
theorem d_M_bringBack_40 : decode b_M_bringBack 40 = .ok (.iload_n 1, 1) := by decide +kernel
theorem d_M_bringBack_41 : decode b_M_bringBack 41 = .ok (.aload_n 0, 1) := by decide +kernel
theorem d_M_bringBack_42 : decode b_M_bringBack 42 = .ok (.getfield 75, 3) := by decide +kernel
theorem d_M_bringBack_45 : decode b_M_bringBack 45 = .ok (.iload_n 1, 1) := by decide +kernel
theorem d_M_bringBack_46 : decode b_M_bringBack 46 = .ok (.iaload, 1) := by decide +kernel
theorem d_M_bringBack_47 : decode b_M_bringBack 47 = .ok (.iastore, 1) := by decide +kernel
theorem d_M_bringBack_48 : decode b_M_bringBack 48 = .ok (.aload_n 0, 1) := by decide +kernel
theorem d_M_bringBack_49 : decode b_M_bringBack 49 = .ok (.getfield 66, 3) := by decide +kernel
theorem d_M_bringBack_52 : decode b_M_bringBack 52 = .ok (.iload_n 1, 1) := by decide +kernel
theorem d_M_bringBack_53 : decode b_M_bringBack 53 = .ok (.aload_n 0, 1) := by decide +kernel
theorem d_M_bringBack_54 : decode b_M_bringBack 54 = .ok (.getfield 78, 3) := by decide +kernel
theorem d_M_bringBack_57 : decode b_M_bringBack 57 = .ok (.iload_n 1, 1) := by decide +kernel
theorem d_M_bringBack_58 : decode b_M_bringBack 58 = .ok (.iaload, 1) := by decide +kernel
theorem d_M_bringBack_59 : decode b_M_bringBack 59 = .ok (.iastore, 1) := by decide +kernel
theorem d_M_bringBack_60 : decode b_M_bringBack 60 = .ok (.iinc 1 1, 3) := by decide +kernel
theorem d_M_bringBack_63 : decode b_M_bringBack 63 = .ok (.goto (-45), 3) := by decide +kernel
theorem d_M_bringBack_66 : decode b_M_bringBack 66 = .ok (.return_, 1) := by decide +kernel
theorem d_M_text_0 : decode b_M_text 0 = .ok (.aload_n 0, 1) := by decide +kernel
theorem d_M_text_1 : decode b_M_text 1 = .ok (.invokevirtual 176, 3) := by decide +kernel
theorem d_M_text_4 : decode b_M_text 4 = .ok (.aload_n 0, 1) := by decide +kernel
theorem d_M_text_5 : decode b_M_text 5 = .ok (.iconst 0, 1) := by decide +kernel
theorem d_M_text_6 : decode b_M_text 6 = .ok (.putfield 163, 3) := by decide +kernel
theorem d_M_text_9 : decode b_M_text 9 = .ok (.iconst 0, 1) := by decide +kernel
theorem d_M_text_10 : decode b_M_text 10 = .ok (.istore_n 1, 1) := by decide +kernel
theorem d_M_text_11 : decode b_M_text 11 = .ok (.iconst 0, 1) := by decide +kernel
theorem d_M_text_12 : decode b_M_text 12 = .ok (.istore_n 2, 1) := by decide +kernel
theorem d_M_text_13 : decode b_M_text 13 = .ok (.iload_n 2, 1) := by decide +kernel
theorem d_M_text_14 : decode b_M_text 14 = .ok (.aload_n 0, 1) := by decide +kernel
theorem d_M_text_15 : decode b_M_text 15 = .ok (.getfield 81, 3) := by decide +kernel
theorem d_M_text_18 : decode b_M_text 18 = .ok (.if_icmp .ge 68, 3) := by decide +kernel
theorem d_M_text_21 : decode b_M_text 21 = .ok (.iload_n 2, 1) := by decide +kernel
theorem d_M_text_22 : decode b_M_text 22 = .ok (.istore_n 3, 1) := by decide +kernel
theorem d_M_text_23 : decode b_M_text 23 = .ok (.iload_n 3, 1) := by decide +kernel
theorem d_M_text_24 : decode b_M_text 24 = .ok (.aload_n 0, 1) := by decide +kernel
theorem d_M_text_25 : decode b_M_text 25 = .ok (.getfield 81, 3) := by decide +kernel
theorem d_M_text_28 : decode b_M_text 28 = .ok (.if_icmp .ge 23, 3) := by decide +kernel
theorem d_M_text_31 : decode b_M_text 31 = .ok (.aload_n 0, 1) := by decide +kernel
theorem d_M_text_32 : decode b_M_text 32 = .ok (.getfield 7, 3) := by decide +kernel
theorem d_M_text_35 : decode b_M_text 35 = .ok (.aload_n 0, 1) := by decide +kernel
theorem d_M_text_36 : decode b_M_text 36 = .ok (.getfield 20, 3) := by decide +kernel
theorem d_M_text_39 : decode b_M_text 39 = .ok (.iload_n 3, 1) := by decide +kernel
theorem d_M_text_40 : decode b_M_text 40 = .ok (.iaload, 1) := by decide +kernel
theorem d_M_text_41 : decode b_M_text 41 = .ok (.iaload, 1) := by decide +kernel
theorem d_M_text_42 : decode b_M_text 42 = .ok (.ifCond .le 9, 3) := by decide +kernel
theorem d_M_text_45 : decode b_M_text 45 = .ok (.iinc 3 1, 3) := by decide +kernel
theorem d_M_text_48 : decode b_M_text 48 = .ok (.goto (-25), 3) := by decide +kernel
theorem d_M_text_51 : decode b_M_text 51 = .ok (.iload_n 3, 1) := by decide +kernel
theorem d_M_text_52 : decode b_M_text 52 = .ok (.iload_n 2, 1) := by decide +kernel
theorem d_M_text_53 : decode b_M_text 53 = .ok (.if_icmp .le 17, 3) := by decide +kernel
theorem d_M_text_56 : decode b_M_text 56 = .ok (.iload_n 1, 1) := by decide +kernel
theorem d_M_text_57 : decode b_M_text 57 = .ok (.aload_n 0, 1) := by decide +kernel
theorem d_M_text_58 : decode b_M_text 58 = .ok (.iload_n 2, 1) := by decide +kernel
theorem d_M_text_59 : decode b_M_text 59 = .ok (.iload_n 3, 1) := by decide +kernel
theorem d_M_text_60 : decode b_M_text 60 = .ok (.invokevirtual 179, 3) := by decide +kernel
theorem d_M_text_63 : decode b_M_text 63 = .ok (.iadd, 1) := by decide +kernel
theorem d_M_text_64 : decode b_M_text 64 = .ok (.istore_n 1, 1) := by decide +kernel
theorem d_M_text_65 : decode b_M_text 65 = .ok (.iload_n 3, 1) := by decide +kernel
theorem d_M_text_66 : decode b_M_text 66 = .ok (.istore_n 2, 1) := by decide +kernel
theorem d_M_text_67 : decode b_M_text 67 = .ok (.goto 16, 3) := by decide +kernel
theorem d_M_text_70 : decode b_M_text 70 = .ok (.aload_n 0, 1) := by decide +kernel
theorem d_M_text_71 : decode b_M_text 71 = .ok (.aload_n 0, 1) := by decide +kernel
theorem d_M_text_72 : decode b_M_text 72 = .ok (.getfield 20, 3) := by decide +kernel
theorem d_M_text_75 : decode b_M_text 75 = .ok (.iload_n 2, 1) := by decide +kernel
theorem d_M_text_76 : decode b_M_text 76 = .ok (.iaload, 1) := by decide +kernel
theorem d_M_text_77 : decode b_M_text 77 = .ok (.invokevirtual 166, 3) := by decide +kernel
theorem d_M_text_80 : decode b_M_text 80 = .ok (.iinc 2 1, 3) := by decide +kernel
theorem d_M_text_83 : decode b_M_text 83 = .ok (.goto (-70), 3) := by decide +kernel
theorem d_M_text_86 : decode b_M_text 86 = .ok (.aload_n 0, 1) := by decide +kernel
theorem d_M_text_87 : decode b_M_text 87 = .ok (.iconst 0, 1) := by decide +kernel
theorem d_M_text_88 : decode b_M_text 88 = .ok (.putfield 81, 3) := by decide +kernel
theorem d_M_text_91 : decode b_M_text 91 = .ok (.aload_n 0, 1) := by decide +kernel
theorem d_M_text_92 : decode b_M_text 92 = .ok (.invokevirtual 182, 3) := by decide +kernel
theorem d_M_text_95 : decode b_M_text 95 = .ok (.iload_n 1, 1) := by decide +kernel
theorem d_M_text_96 : decode b_M_text 96 = .ok (.ireturn, 1) := by decide +kernel
theorem d_M_init_0 : decode b_M_init 0 = .ok (.aload_n 0, 1) := by decide +kernel
theorem d_M_init_1 : decode b_M_init 1 = .ok (.invokespecial 1, 3) := by decide +kernel
theorem d_M_init_4 : decode b_M_init 4 = .ok (.aload_n 0, 1) := by decide +kernel
theorem d_M_init_5 : decode b_M_init 5 = .ok (.sipush 256, 3) := by decide +kernel
theorem d_M_init_8 : decode b_M_init 8 = .ok (.newarray .int, 2) := by decide +kernel
theorem d_M_init_10 : decode b_M_init 10 = .ok (.putfield 7, 3) := by decide +kernel
theorem d_M_init_13 : decode b_M_init 13 = .ok (.aload_n 0, 1) := by decide +kernel
theorem d_M_init_14 : decode b_M_init 14 = .ok (.iconst 2, 1) := by decide +kernel
theorem d_M_init_15 : decode b_M_init 15 = .ok (.putfield 13, 3) := by decide +kernel
theorem d_M_init_18 : decode b_M_init 18 = .ok (.aload_n 0, 1) := by decide +kernel
theorem d_M_init_19 : decode b_M_init 19 = .ok (.iconst 3, 1) := by decide +kernel
theorem d_M_init_20 : decode b_M_init 20 = .ok (.putfield 17, 3) := by decide +kernel
theorem d_M_init_23 : decode b_M_init 23 = .ok (.aload_n 0, 1) := by decide +kernel
theorem d_M_init_24 : decode b_M_init 24 = .ok (.sipush 4000, 3) := by decide +kernel
theorem d_M_init_27 : decode b_M_init 27 = .ok (.newarray .int, 2) := by decide +kernel
theorem d_M_init_29 : decode b_M_init 29 = .ok (.putfield 20, 3) := by decide +kernel
theorem d_M_init_32 : decode b_M_init 32 = .ok (.aload_n 0, 1) := by decide +kernel
theorem d_M_init_33 : decode b_M_init 33 = .ok (.sipush 1001, 3) := by decide +kernel
theorem d_M_init_36 : decode b_M_init 36 = .ok (.newarray .int, 2) := by decide +kernel
theorem d_M_init_38 : decode b_M_init 38 = .ok (.putfield 23, 3) := by decide +kernel
theorem d_M_init_41 : decode b_M_init 41 = .ok (.aload_n 0, 1) := by decide +kernel
theorem d_M_init_42 : decode b_M_init 42 = .ok (.sipush 1001, 3) := by decide +kernel
theorem d_M_init_45 : decode b_M_init 45 = .ok (.newarray .int, 2) := by decide +kernel
theorem d_M_init_47 : decode b_M_init 47 = .ok (.putfield 26, 3) := by decide +kernel
theorem d_M_init_50 : decode b_M_init 50 = .ok (.aload_n 0, 1) := by decide +kernel
theorem d_M_init_51 : decode b_M_init 51 = .ok (.sipush 1001, 3) := by decide +kernel
theorem d_M_init_54 : decode b_M_init 54 = .ok (.newarray .boolean, 2) := by decide +kernel
theorem d_M_init_56 : decode b_M_init 56 = .ok (.putfield 29, 3) := by decide +kernel
theorem d_M_init_59 : decode b_M_init 59 = .ok (.aload_n 0, 1) := by decide +kernel
theorem d_M_init_60 : decode b_M_init 60 = .ok (.sipush 1001, 3) := by decide +kernel
theorem d_M_init_63 : decode b_M_init 63 = .ok (.newarray .boolean, 2) := by decide +kernel
theorem d_M_init_65 : decode b_M_init 65 = .ok (.putfield 33, 3) := by decide +kernel
theorem d_M_init_68 : decode b_M_init 68 = .ok (.aload_n 0, 1) := by decide +kernel
theorem d_M_init_69 : decode b_M_init 69 = .ok (.sipush 8064, 3) := by decide +kernel
theorem d_M_init_72 : decode b_M_init 72 = .ok (.newarray .int, 2) := by decide +kernel
theorem d_M_init_74 : decode b_M_init 74 = .ok (.putfield 36, 3) := by decide +kernel
theorem d_M_init_77 : decode b_M_init 77 = .ok (.aload_n 0, 1) := by decide +kernel
theorem d_M_init_78 : decode b_M_init 78 = .ok (.sipush 9100, 3) := by decide +kernel
theorem d_M_init_81 : decode b_M_init 81 = .ok (.newarray .int, 2) := by decide +kernel
theorem d_M_init_83 : decode b_M_init 83 = .ok (.putfield 39, 3) := by decide +kernel
theorem d_M_init_86 : decode b_M_init 86 = .ok (.aload_n 0, 1) := by decide +kernel
theorem d_M_init_87 : decode b_M_init 87 = .ok (.sipush 301, 3) := by decide +kernel
theorem d_M_init_90 : decode b_M_init 90 = .ok (.newarray .int, 2) := by decide +kernel
theorem d_M_init_92 : decode b_M_init 92 = .ok (.putfield 42, 3) := by decide +kernel
theorem d_M_init_95 : decode b_M_init 95 = .ok (.aload_n 0, 1) := by decide +kernel
theorem d_M_init_96 : decode b_M_init 96 = .ok (.sipush 8064, 3) := by decide +kernel
theorem d_M_init_99 : decode b_M_init 99 = .ok (.newarray .int, 2) := by decide +kernel
theorem d_M_init_101 : decode b_M_init 101 = .ok (.putfield 45, 3) := by decide +kernel
theorem d_M_init_104 : decode b_M_init 104 = .ok (.aload_n 0, 1) := by decide +kernel
theorem d_M_init_105 : decode b_M_init 105 = .ok (.sipush 8064, 3) := by decide +kernel
theorem d_M_init_108 : decode b_M_init 108 = .ok (.newarray .boolean, 2) := by decide +kernel
theorem d_M_init_110 : decode b_M_init 110 = .ok (.putfield 48, 3) := by decide +kernel
theorem d_M_init_113 : decode b_M_init 113 = .ok (.aload_n 0, 1) := by decide +kernel
theorem d_M_init_114 : decode b_M_init 114 = .ok (.sipush 4000, 3) := by decide +kernel
theorem d_M_init_117 : decode b_M_init 117 = .ok (.newarray .int, 2) := by decide +kernel
theorem d_M_init_119 : decode b_M_init 119 = .ok (.putfield 51, 3) := by decide +kernel
theorem d_M_init_122 : decode b_M_init 122 = .ok (.aload_n 0, 1) := by decide +kernel
theorem d_M_init_123 : decode b_M_init 123 = .ok (.sipush 4001, 3) := by decide +kernel
theorem d_M_init_126 : decode b_M_init 126 = .ok (.newarray .int, 2) := by decide +kernel
theorem d_M_init_128 : decode b_M_init 128 = .ok (.putfield 54, 3) := by decide +kernel
theorem d_M_init_131 : decode b_M_init 131 = .ok (.aload_n 0, 1) := by decide +kernel
theorem d_M_init_132 : decode b_M_init 132 = .ok (.sipush 4000, 3) := by decide +kernel
theorem d_M_init_135 : decode b_M_init 135 = .ok (.newarray .boolean, 2) := by decide +kernel
theorem d_M_init_137 : decode b_M_init 137 = .ok (.putfield 57, 3) := by decide +kernel
theorem d_M_init_140 : decode b_M_init 140 = .ok (.aload_n 0, 1) := by decide +kernel
theorem d_M_init_141 : decode b_M_init 141 = .ok (.bipush 64, 2) := by decide +kernel
theorem d_M_init_143 : decode b_M_init 143 = .ok (.newarray .int, 2) := by decide +kernel
theorem d_M_init_145 : decode b_M_init 145 = .ok (.putfield 60, 3) := by decide +kernel
theorem d_M_init_148 : decode b_M_init 148 = .ok (.aload_n 0, 1) := by decide +kernel
theorem d_M_init_149 : decode b_M_init 149 = .ok (.bipush 64, 2) := by decide +kernel
theorem d_M_init_151 : decode b_M_init 151 = .ok (.newarray .int, 2) := by decide +kernel
theorem d_M_init_153 : decode b_M_init 153 = .ok (.putfield 63, 3) := by decide +kernel
theorem d_M_init_156 : decode b_M_init 156 = .ok (.aload_n 0, 1) := by decide +kernel
theorem d_M_init_157 : decode b_M_init 157 = .ok (.bipush 64, 2) := by decide +kernel
theorem d_M_init_159 : decode b_M_init 159 = .ok (.newarray .int, 2) := by decide +kernel
theorem d_M_init_161 : decode b_M_init 161 = .ok (.putfield 66, 3) := by decide +kernel
theorem d_M_init_164 : decode b_M_init 164 = .ok (.aload_n 0, 1) := by decide +kernel
theorem d_M_init_165 : decode b_M_init 165 = .ok (.sipush 8000, 3) := by decide +kernel
theorem d_M_init_168 : decode b_M_init 168 = .ok (.newarray .int, 2) := by decide +kernel
theorem d_M_init_170 : decode b_M_init 170 = .ok (.putfield 69, 3) := by decide +kernel
theorem d_M_init_173 : decode b_M_init 173 = .ok (.aload_n 0, 1) := by decide +kernel
theorem d_M_init_174 : decode b_M_init 174 = .ok (.bipush 64, 2) := by decide +kernel
theorem d_M_init_176 : decode b_M_init 176 = .ok (.newarray .int, 2) := by decide +kernel
theorem d_M_init_178 : decode b_M_init 178 = .ok (.putfield 72, 3) := by decide +kernel
theorem d_M_init_181 : decode b_M_init 181 = .ok (.aload_n 0, 1) := by decide +kernel
theorem d_M_init_182 : decode b_M_init 182 = .ok (.bipush 64, 2) := by decide +kernel
theorem d_M_init_184 : decode b_M_init 184 = .ok (.newarray .int, 2) := by decide +kernel
theorem d_M_init_186 : decode b_M_init 186 = .ok (.putfield 75, 3) := by decide +kernel
theorem d_M_init_189 : decode b_M_init 189 = .ok (.aload_n 0, 1) := by decide +kernel
theorem d_M_init_190 : decode b_M_init 190 = .ok (.bipush 64, 2) := by decide +kernel
theorem d_M_init_192 : decode b_M_init 192 = .ok (.newarray .int, 2) := by decide +kernel
theorem d_M_init_194 : decode b_M_init 194 = .ok (.putfield 78, 3) := by decide +kernel
theorem d_M_init_197 : decode b_M_init 197 = .ok (.iconst 1, 1) := by decide +kernel
theorem d_M_init_198 : decode b_M_init 198 = .ok (.istore_n 1, 1) := by decide +kernel
theorem d_M_init_199 : decode b_M_init 199 = .ok (.iload_n 1, 1) := by decide +kernel
theorem d_M_init_200 : decode b_M_init 200 = .ok (.bipush 26, 2) := by decide +kernel
theorem d_M_init_202 : decode b_M_init 202 = .ok (.if_icmp .gt 33, 3) := by decide +kernel
theorem d_M_init_205 : decode b_M_init 205 = .ok (.aload_n 0, 1) := by decide +kernel
theorem d_M_init_206 : decode b_M_init 206 = .ok (.getfield 7, 3) := by decide +kernel
theorem d_M_init_209 : decode b_M_init 209 = .ok (.bipush 97, 2) := by decide +kernel
theorem d_M_init_211 : decode b_M_init 211 = .ok (.iload_n 1, 1) := by decide +kernel
theorem d_M_init_212 : decode b_M_init 212 = .ok (.iadd, 1) := by decide +kernel
theorem d_M_init_213 : decode b_M_init 213 = .ok (.iconst 1, 1) := by decide +kernel
theorem d_M_init_214 : decode b_M_init 214 = .ok (.isub, 1) := by decide +kernel
theorem d_M_init_215 : decode b_M_init 215 = .ok (.iload_n 1, 1) := by decide +kernel
theorem d_M_init_216 : decode b_M_init 216 = .ok (.iastore, 1) := by decide +kernel
theorem d_M_init_217 : decode b_M_init 217 = .ok (.aload_n 0, 1) := by decide +kernel
theorem d_M_init_218 : decode b_M_init 218 = .ok (.getfield 7, 3) := by decide +kernel
theorem d_M_init_221 : decode b_M_init 221 = .ok (.bipush 65, 2) := by decide +kernel
theorem d_M_init_223 : decode b_M_init 223 = .ok (.iload_n 1, 1) := by decide +kernel
theorem d_M_init_224 : decode b_M_init 224 = .ok (.iadd, 1) := by decide +kernel
theorem d_M_init_225 : decode b_M_init 225 = .ok (.iconst 1, 1) := by decide +kernel
theorem d_M_init_226 : decode b_M_init 226 = .ok (.isub, 1) := by decide +kernel
theorem d_M_init_227 : decode b_M_init 227 = .ok (.iload_n 1, 1) := by decide +kernel
theorem d_M_init_228 : decode b_M_init 228 = .ok (.iastore, 1) := by decide +kernel
theorem d_M_init_229 : decode b_M_init 229 = .ok (.iinc 1 1, 3) := by decide +kernel
theorem d_M_init_232 : decode b_M_init 232 = .ok (.goto (-33), 3) := by decide +kernel
theorem d_M_init_235 : decode b_M_init 235 = .ok (.return_, 1) := by decide +kernel
