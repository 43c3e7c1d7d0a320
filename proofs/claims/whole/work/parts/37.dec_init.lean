theorem d_firstLetters_0 : decode b_firstLetters 0 = .ok (.new 17, 3) := by decide +kernel
theorem d_firstLetters_3 : decode b_firstLetters 3 = .ok (.dup, 1) := by decide +kernel
theorem d_firstLetters_4 : decode b_firstLetters 4 = .ok (.sipush 256, 3) := by decide +kernel
theorem d_firstLetters_7 : decode b_firstLetters 7 = .ok (.invokespecial 19, 3) := by decide +kernel
theorem d_firstLetters_10 : decode b_firstLetters 10 = .ok (.astore_n 0, 1) := by decide +kernel
theorem d_firstLetters_11 : decode b_firstLetters 11 = .ok (.iconst 0, 1) := by decide +kernel
theorem d_firstLetters_12 : decode b_firstLetters 12 = .ok (.istore_n 1, 1) := by decide +kernel
theorem d_firstLetters_13 : decode b_firstLetters 13 = .ok (.iload_n 1, 1) := by decide +kernel
theorem d_firstLetters_14 : decode b_firstLetters 14 = .ok (.sipush 256, 3) := by decide +kernel
theorem d_firstLetters_17 : decode b_firstLetters 17 = .ok (.if_icmp .ge 17, 3) := by decide +kernel
theorem d_firstLetters_20 : decode b_firstLetters 20 = .ok (.aload_n 0, 1) := by decide +kernel
theorem d_firstLetters_21 : decode b_firstLetters 21 = .ok (.iload_n 1, 1) := by decide +kernel
theorem d_firstLetters_22 : decode b_firstLetters 22 = .ok (.invokestatic 120, 3) := by decide +kernel
theorem d_firstLetters_25 : decode b_firstLetters 25 = .ok (.invokevirtual 73, 3) := by decide +kernel
theorem d_firstLetters_28 : decode b_firstLetters 28 = .ok (.iinc 1 1, 3) := by decide +kernel
theorem d_firstLetters_31 : decode b_firstLetters 31 = .ok (.goto (-18), 3) := by decide +kernel
theorem d_firstLetters_34 : decode b_firstLetters 34 = .ok (.aload_n 0, 1) := by decide +kernel
theorem d_firstLetters_35 : decode b_firstLetters 35 = .ok (.areturn, 1) := by decide +kernel
theorem d_En_init_0 : decode b_En_init 0 = .ok (.aload_n 0, 1) := by decide +kernel
theorem d_En_init_1 : decode b_En_init 1 = .ok (.invokespecial 3, 3) := by decide +kernel
theorem d_En_init_4 : decode b_En_init 4 = .ok (.aload_n 0, 1) := by decide +kernel
theorem d_En_init_5 : decode b_En_init 5 = .ok (.new 9, 3) := by decide +kernel
theorem d_En_init_8 : decode b_En_init 8 = .ok (.dup, 1) := by decide +kernel
theorem d_En_init_9 : decode b_En_init 9 = .ok (.bipush 63, 2) := by decide +kernel
theorem d_En_init_11 : decode b_En_init 11 = .ok (.invokespecial 11, 3) := by decide +kernel
theorem d_En_init_14 : decode b_En_init 14 = .ok (.putfield 14, 3) := by decide +kernel
theorem d_En_init_17 : decode b_En_init 17 = .ok (.aload_n 0, 1) := by decide +kernel
theorem d_En_init_18 : decode b_En_init 18 = .ok (.new 9, 3) := by decide +kernel
theorem d_En_init_21 : decode b_En_init 21 = .ok (.dup, 1) := by decide +kernel
theorem d_En_init_22 : decode b_En_init 22 = .ok (.bipush 64, 2) := by decide +kernel
theorem d_En_init_24 : decode b_En_init 24 = .ok (.invokespecial 11, 3) := by decide +kernel
theorem d_En_init_27 : decode b_En_init 27 = .ok (.putfield 20, 3) := by decide +kernel
theorem d_En_init_30 : decode b_En_init 30 = .ok (.return_, 1) := by decide +kernel
theorem d_Bw_init_0 : decode b_Bw_init 0 = .ok (.aload_n 0, 1) := by decide +kernel
theorem d_Bw_init_1 : decode b_Bw_init 1 = .ok (.invokespecial 3, 3) := by decide +kernel
theorem d_Bw_init_4 : decode b_Bw_init 4 = .ok (.aload_n 0, 1) := by decide +kernel
theorem d_Bw_init_5 : decode b_Bw_init 5 = .ok (.new 9, 3) := by decide +kernel
theorem d_Bw_init_8 : decode b_Bw_init 8 = .ok (.dup, 1) := by decide +kernel
theorem d_Bw_init_9 : decode b_Bw_init 9 = .ok (.bipush 63, 2) := by decide +kernel
theorem d_Bw_init_11 : decode b_Bw_init 11 = .ok (.invokespecial 11, 3) := by decide +kernel
theorem d_Bw_init_14 : decode b_Bw_init 14 = .ok (.putfield 14, 3) := by decide +kernel
theorem d_Bw_init_17 : decode b_Bw_init 17 = .ok (.aload_n 0, 1) := by decide +kernel
theorem d_Bw_init_18 : decode b_Bw_init 18 = .ok (.new 9, 3) := by decide +kernel
theorem d_Bw_init_21 : decode b_Bw_init 21 = .ok (.dup, 1) := by decide +kernel
theorem d_Bw_init_22 : decode b_Bw_init 22 = .ok (.bipush 63, 2) := by decide +kernel
theorem d_Bw_init_24 : decode b_Bw_init 24 = .ok (.invokespecial 11, 3) := by decide +kernel
theorem d_Bw_init_27 : decode b_Bw_init 27 = .ok (.putfield 20, 3) := by decide +kernel
theorem d_Bw_init_30 : decode b_Bw_init 30 = .ok (.aload_n 0, 1) := by decide +kernel
theorem d_Bw_init_31 : decode b_Bw_init 31 = .ok (.new 9, 3) := by decide +kernel
theorem d_Bw_init_34 : decode b_Bw_init 34 = .ok (.dup, 1) := by decide +kernel
theorem d_Bw_init_35 : decode b_Bw_init 35 = .ok (.bipush 63, 2) := by decide +kernel
theorem d_Bw_init_37 : decode b_Bw_init 37 = .ok (.invokespecial 11, 3) := by decide +kernel
theorem d_Bw_init_40 : decode b_Bw_init 40 = .ok (.putfield 23, 3) := by decide +kernel
theorem d_Bw_init_43 : decode b_Bw_init 43 = .ok (.return_, 1) := by decide +kernel
theorem d_Sh_init_0 : decode b_Sh_init 0 = .ok (.aload_n 0, 1) := by decide +kernel
theorem d_Sh_init_1 : decode b_Sh_init 1 = .ok (.invokespecial 3, 3) := by decide +kernel
theorem d_Sh_init_4 : decode b_Sh_init 4 = .ok (.aload_n 0, 1) := by decide +kernel
theorem d_Sh_init_5 : decode b_Sh_init 5 = .ok (.new 9, 3) := by decide +kernel
theorem d_Sh_init_8 : decode b_Sh_init 8 = .ok (.dup, 1) := by decide +kernel
theorem d_Sh_init_9 : decode b_Sh_init 9 = .ok (.sipush 8000, 3) := by decide +kernel
theorem d_Sh_init_12 : decode b_Sh_init 12 = .ok (.invokespecial 11, 3) := by decide +kernel
theorem d_Sh_init_15 : decode b_Sh_init 15 = .ok (.putfield 14, 3) := by decide +kernel
theorem d_Sh_init_18 : decode b_Sh_init 18 = .ok (.aload_n 0, 1) := by decide +kernel
theorem d_Sh_init_19 : decode b_Sh_init 19 = .ok (.new 9, 3) := by decide +kernel
theorem d_Sh_init_22 : decode b_Sh_init 22 = .ok (.dup, 1) := by decide +kernel
theorem d_Sh_init_23 : decode b_Sh_init 23 = .ok (.bipush 64, 2) := by decide +kernel
theorem d_Sh_init_25 : decode b_Sh_init 25 = .ok (.invokespecial 11, 3) := by decide +kernel
theorem d_Sh_init_28 : decode b_Sh_init 28 = .ok (.putfield 20, 3) := by decide +kernel
theorem d_Sh_init_31 : decode b_Sh_init 31 = .ok (.aload_n 0, 1) := by decide +kernel
theorem d_Sh_init_32 : decode b_Sh_init 32 = .ok (.iload_n 1, 1) := by decide +kernel
theorem d_Sh_init_33 : decode b_Sh_init 33 = .ok (.putfield 23, 3) := by decide +kernel
theorem d_Sh_init_36 : decode b_Sh_init 36 = .ok (.aload_n 0, 1) := by decide +kernel
theorem d_Sh_init_37 : decode b_Sh_init 37 = .ok (.new 9, 3) := by decide +kernel
theorem d_Sh_init_40 : decode b_Sh_init 40 = .ok (.dup, 1) := by decide +kernel
theorem d_Sh_init_41 : decode b_Sh_init 41 = .ok (.sipush 8000, 3) := by decide +kernel
theorem d_Sh_init_44 : decode b_Sh_init 44 = .ok (.iload_n 1, 1) := by decide +kernel
theorem d_Sh_init_45 : decode b_Sh_init 45 = .ok (.iadd, 1) := by decide +kernel
theorem d_Sh_init_46 : decode b_Sh_init 46 = .ok (.invokespecial 11, 3) := by decide +kernel
theorem d_Sh_init_49 : decode b_Sh_init 49 = .ok (.putfield 27, 3) := by decide +kernel
theorem d_Sh_init_52 : decode b_Sh_init 52 = .ok (.aload_n 0, 1) := by decide +kernel
theorem d_Sh_init_53 : decode b_Sh_init 53 = .ok (.new 9, 3) := by decide +kernel
theorem d_Sh_init_56 : decode b_Sh_init 56 = .ok (.dup, 1) := by decide +kernel
theorem d_Sh_init_57 : decode b_Sh_init 57 = .ok (.iload_n 1, 1) := by decide +kernel
theorem d_Sh_init_58 : decode b_Sh_init 58 = .ok (.invokespecial 11, 3) := by decide +kernel
theorem d_Sh_init_61 : decode b_Sh_init 61 = .ok (.putfield 30, 3) := by decide +kernel
theorem d_Sh_init_64 : decode b_Sh_init 64 = .ok (.aload_n 0, 1) := by decide +kernel
theorem d_Sh_init_65 : decode b_Sh_init 65 = .ok (.new 9, 3) := by decide +kernel
theorem d_Sh_init_68 : decode b_Sh_init 68 = .ok (.dup, 1) := by decide +kernel
theorem d_Sh_init_69 : decode b_Sh_init 69 = .ok (.iload_n 1, 1) := by decide +kernel
theorem d_Sh_init_70 : decode b_Sh_init 70 = .ok (.invokespecial 11, 3) := by decide +kernel
theorem d_Sh_init_73 : decode b_Sh_init 73 = .ok (.putfield 33, 3) := by decide +kernel
theorem d_Sh_init_76 : decode b_Sh_init 76 = .ok (.aload_n 0, 1) := by decide +kernel
theorem d_Sh_init_77 : decode b_Sh_init 77 = .ok (.new 9, 3) := by decide +kernel
theorem d_Sh_init_80 : decode b_Sh_init 80 = .ok (.dup, 1) := by decide +kernel
theorem d_Sh_init_81 : decode b_Sh_init 81 = .ok (.iload_n 1, 1) := by decide +kernel
theorem d_Sh_init_82 : decode b_Sh_init 82 = .ok (.invokespecial 11, 3) := by decide +kernel
theorem d_Sh_init_85 : decode b_Sh_init 85 = .ok (.putfield 36, 3) := by decide +kernel
theorem d_Sh_init_88 : decode b_Sh_init 88 = .ok (.aload_n 0, 1) := by decide +kernel
theorem d_Sh_init_89 : decode b_Sh_init 89 = .ok (.new 9, 3) := by decide +kernel
theorem d_Sh_init_92 : decode b_Sh_init 92 = .ok (.dup, 1) := by decide +kernel
theorem d_Sh_init_93 : decode b_Sh_init 93 = .ok (.iload_n 1, 1) := by decide +kernel
theorem d_Sh_init_94 : decode b_Sh_init 94 = .ok (.invokespecial 11, 3) := by decide +kernel
theorem d_Sh_init_97 : decode b_Sh_init 97 = .ok (.putfield 39, 3) := by decide +kernel
theorem d_Sh_init_100 : decode b_Sh_init 100 = .ok (.iconst 0, 1) := by decide +kernel
theorem d_Sh_init_101 : decode b_Sh_init 101 = .ok (.istore_n 2, 1) := by decide +kernel
theorem d_Sh_init_102 : decode b_Sh_init 102 = .ok (.iload_n 2, 1) := by decide +kernel
theorem d_Sh_init_103 : decode b_Sh_init 103 = .ok (.bipush 63, 2) := by decide +kernel
theorem d_Sh_init_105 : decode b_Sh_init 105 = .ok (.if_icmp .gt 17, 3) := by decide +kernel
theorem d_Sh_init_108 : decode b_Sh_init 108 = .ok (.aload_n 0, 1) := by decide +kernel
theorem d_Sh_init_109 : decode b_Sh_init 109 = .ok (.getfield 20, 3) := by decide +kernel
theorem d_Sh_init_112 : decode b_Sh_init 112 = .ok (.iconst (-1), 1) := by decide +kernel
theorem d_Sh_init_113 : decode b_Sh_init 113 = .ok (.invokevirtual 42, 3) := by decide +kernel
theorem d_Sh_init_116 : decode b_Sh_init 116 = .ok (.iinc 2 1, 3) := by decide +kernel
theorem d_Sh_init_119 : decode b_Sh_init 119 = .ok (.goto (-17), 3) := by decide +kernel
theorem d_Sh_init_122 : decode b_Sh_init 122 = .ok (.aload_n 0, 1) := by decide +kernel
theorem d_Sh_init_123 : decode b_Sh_init 123 = .ok (.iconst 0, 1) := by decide +kernel
theorem d_Sh_init_124 : decode b_Sh_init 124 = .ok (.putfield 45, 3) := by decide +kernel
theorem d_Sh_init_127 : decode b_Sh_init 127 = .ok (.return_, 1) := by decide +kernel
theorem d_Wb_init_0 : decode b_Wb_init 0 = .ok (.aload_n 0, 1) := by decide +kernel
theorem d_Wb_init_1 : decode b_Wb_init 1 = .ok (.invokespecial 3, 3) := by decide +kernel
theorem d_Wb_init_4 : decode b_Wb_init 4 = .ok (.aload_n 0, 1) := by decide +kernel
theorem d_Wb_init_5 : decode b_Wb_init 5 = .ok (.invokestatic 9, 3) := by decide +kernel
theorem d_Wb_init_8 : decode b_Wb_init 8 = .ok (.putfield 13, 3) := by decide +kernel
theorem d_Wb_init_11 : decode b_Wb_init 11 = .ok (.aload_n 0, 1) := by decide +kernel
theorem d_Wb_init_12 : decode b_Wb_init 12 = .ok (.new 17, 3) := by decide +kernel
theorem d_Wb_init_15 : decode b_Wb_init 15 = .ok (.dup, 1) := by decide +kernel
theorem d_Wb_init_16 : decode b_Wb_init 16 = .ok (.sipush 4000, 3) := by decide +kernel
theorem d_Wb_init_19 : decode b_Wb_init 19 = .ok (.invokespecial 19, 3) := by decide +kernel
theorem d_Wb_init_22 : decode b_Wb_init 22 = .ok (.putfield 22, 3) := by decide +kernel
theorem d_Wb_init_25 : decode b_Wb_init 25 = .ok (.aload_n 0, 1) := by decide +kernel
theorem d_Wb_init_26 : decode b_Wb_init 26 = .ok (.new 17, 3) := by decide +kernel
theorem d_Wb_init_29 : decode b_Wb_init 29 = .ok (.dup, 1) := by decide +kernel
theorem d_Wb_init_30 : decode b_Wb_init 30 = .ok (.sipush 8000, 3) := by decide +kernel
theorem d_Wb_init_33 : decode b_Wb_init 33 = .ok (.invokespecial 19, 3) := by decide +kernel
theorem d_Wb_init_36 : decode b_Wb_init 36 = .ok (.putfield 25, 3) := by decide +kernel
theorem d_Wb_init_39 : decode b_Wb_init 39 = .ok (.aload_n 0, 1) := by decide +kernel
theorem d_Wb_init_40 : decode b_Wb_init 40 = .ok (.new 28, 3) := by decide +kernel
theorem d_Wb_init_43 : decode b_Wb_init 43 = .ok (.dup, 1) := by decide +kernel
theorem d_Wb_init_44 : decode b_Wb_init 44 = .ok (.sipush 1000, 3) := by decide +kernel
theorem d_Wb_init_47 : decode b_Wb_init 47 = .ok (.invokespecial 30, 3) := by decide +kernel
theorem d_Wb_init_50 : decode b_Wb_init 50 = .ok (.putfield 31, 3) := by decide +kernel
theorem d_Wb_init_53 : decode b_Wb_init 53 = .ok (.aload_n 0, 1) := by decide +kernel
theorem d_Wb_init_54 : decode b_Wb_init 54 = .ok (.new 28, 3) := by decide +kernel
theorem d_Wb_init_57 : decode b_Wb_init 57 = .ok (.dup, 1) := by decide +kernel
theorem d_Wb_init_58 : decode b_Wb_init 58 = .ok (.sipush 300, 3) := by decide +kernel
theorem d_Wb_init_61 : decode b_Wb_init 61 = .ok (.invokespecial 30, 3) := by decide +kernel
theorem d_Wb_init_64 : decode b_Wb_init 64 = .ok (.putfield 35, 3) := by decide +kernel
theorem d_Wb_init_67 : decode b_Wb_init 67 = .ok (.aload_n 0, 1) := by decide +kernel
theorem d_Wb_init_68 : decode b_Wb_init 68 = .ok (.new 38, 3) := by decide +kernel
theorem d_Wb_init_71 : decode b_Wb_init 71 = .ok (.dup, 1) := by decide +kernel
theorem d_Wb_init_72 : decode b_Wb_init 72 = .ok (.invokespecial 40, 3) := by decide +kernel
theorem d_Wb_init_75 : decode b_Wb_init 75 = .ok (.putfield 41, 3) := by decide +kernel
theorem d_Wb_init_78 : decode b_Wb_init 78 = .ok (.aload_n 0, 1) := by decide +kernel
theorem d_Wb_init_79 : decode b_Wb_init 79 = .ok (.new 45, 3) := by decide +kernel
theorem d_Wb_init_82 : decode b_Wb_init 82 = .ok (.dup, 1) := by decide +kernel
theorem d_Wb_init_83 : decode b_Wb_init 83 = .ok (.invokespecial 47, 3) := by decide +kernel
theorem d_Wb_init_86 : decode b_Wb_init 86 = .ok (.putfield 48, 3) := by decide +kernel
theorem d_Wb_init_89 : decode b_Wb_init 89 = .ok (.aload_n 0, 1) := by decide +kernel
theorem d_Wb_init_90 : decode b_Wb_init 90 = .ok (.new 45, 3) := by decide +kernel
theorem d_Wb_init_93 : decode b_Wb_init 93 = .ok (.dup, 1) := by decide +kernel
theorem d_Wb_init_94 : decode b_Wb_init 94 = .ok (.invokespecial 47, 3) := by decide +kernel
theorem d_Wb_init_97 : decode b_Wb_init 97 = .ok (.putfield 52, 3) := by decide +kernel
theorem d_Wb_init_100 : decode b_Wb_init 100 = .ok (.aload_n 0, 1) := by decide +kernel
theorem d_Wb_init_101 : decode b_Wb_init 101 = .ok (.iconst 2, 1) := by decide +kernel
theorem d_Wb_init_102 : decode b_Wb_init 102 = .ok (.putfield 55, 3) := by decide +kernel
theorem d_Wb_init_105 : decode b_Wb_init 105 = .ok (.aload_n 0, 1) := by decide +kernel
theorem d_Wb_init_106 : decode b_Wb_init 106 = .ok (.iconst 3, 1) := by decide +kernel
theorem d_Wb_init_107 : decode b_Wb_init 107 = .ok (.putfield 59, 3) := by decide +kernel
theorem d_Wb_init_110 : decode b_Wb_init 110 = .ok (.return_, 1) := by decide +kernel
