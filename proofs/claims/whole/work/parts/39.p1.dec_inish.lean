theorem d_Sh_init_0 : decode b_Sh_init 0 = .ok (.aload_n 0, 1) := by decide +kernel
theorem d_Sh_init_1 : decode b_Sh_init 1 = .ok (.invokespecial 3, 3) := by decide +kernel
theorem d_Sh_init_4 : decode b_Sh_init 4 = .ok (.aload_n 0, 1) := by decide +kernel
theorem d_Sh_init_5 : decode b_Sh_init 5 = .ok (.new 9, 3) := by decide +kernel
theorem d_Sh_init_8 : decode b_Sh_init 8 = .ok (.dup, 1) := by decide +kernel
theorem d_Sh_init_9 : decode b_Sh_init 9 = .ok (.sipush 8000, 3) := by decide +kernel
theorem d_Sh_init_12 : decode b_Sh_init 12 = .ok (.invokespecial 11, 3) := by decide +kernel
theorem d_Sh_init_15 : decode b_Sh_init 15 = .ok (.putfield 14, 3) := by decide +kernel
theorem d_Sh_init_18 : decode b_Sh_init 18 = .ok (.aload_n 0, 1) := by decide +kernel
theorem d_Sh_init_19 : decode b_Sh_init 19 = .ok (.new 9, 3) := by decide +kernel
theorem d_Sh_init_22 : decode b_Sh_init 22 = .ok (.dup, 1) := by decide +kernel
theorem d_Sh_init_23 : decode b_Sh_init 23 = .ok (.bipush 64, 2) := by decide +kernel
theorem d_Sh_init_25 : decode b_Sh_init 25 = .ok (.invokespecial 11, 3) := by decide +kernel
theorem d_Sh_init_28 : decode b_Sh_init 28 = .ok (.putfield 20, 3) := by decide +kernel
theorem d_Sh_init_31 : decode b_Sh_init 31 = .ok (.aload_n 0, 1) := by decide +kernel
theorem d_Sh_init_32 : decode b_Sh_init 32 = .ok (.iload_n 1, 1) := by decide +kernel
theorem d_Sh_init_33 : decode b_Sh_init 33 = .ok (.putfield 23, 3) := by decide +kernel
theorem d_Sh_init_36 : decode b_Sh_init 36 = .ok (.aload_n 0, 1) := by decide +kernel
theorem d_Sh_init_37 : decode b_Sh_init 37 = .ok (.new 9, 3) := by decide +kernel
theorem d_Sh_init_40 : decode b_Sh_init 40 = .ok (.dup, 1) := by decide +kernel
theorem d_Sh_init_41 : decode b_Sh_init 41 = .ok (.sipush 8000, 3) := by decide +kernel
theorem d_Sh_init_44 : decode b_Sh_init 44 = .ok (.iload_n 1, 1) := by decide +kernel
theorem d_Sh_init_45 : decode b_Sh_init 45 = .ok (.iadd, 1) := by decide +kernel
theorem d_Sh_init_46 : decode b_Sh_init 46 = .ok (.invokespecial 11, 3) := by decide +kernel
theorem d_Sh_init_49 : decode b_Sh_init 49 = .ok (.putfield 27, 3) := by decide +kernel
theorem d_Sh_init_52 : decode b_Sh_init 52 = .ok (.aload_n 0, 1) := by decide +kernel
theorem d_Sh_init_53 : decode b_Sh_init 53 = .ok (.new 9, 3) := by decide +kernel
theorem d_Sh_init_56 : decode b_Sh_init 56 = .ok (.dup, 1) := by decide +kernel
theorem d_Sh_init_57 : decode b_Sh_init 57 = .ok (.iload_n 1, 1) := by decide +kernel
theorem d_Sh_init_58 : decode b_Sh_init 58 = .ok (.invokespecial 11, 3) := by decide +kernel
theorem d_Sh_init_61 : decode b_Sh_init 61 = .ok (.putfield 30, 3) := by decide +kernel
theorem d_Sh_init_64 : decode b_Sh_init 64 = .ok (.aload_n 0, 1) := by decide +kernel
theorem d_Sh_init_65 : decode b_Sh_init 65 = .ok (.new 9, 3) := by decide +kernel
theorem d_Sh_init_68 : decode b_Sh_init 68 = .ok (.dup, 1) := by decide +kernel
theorem d_Sh_init_69 : decode b_Sh_init 69 = .ok (.iload_n 1, 1) := by decide +kernel
theorem d_Sh_init_70 : decode b_Sh_init 70 = .ok (.invokespecial 11, 3) := by decide +kernel
theorem d_Sh_init_73 : decode b_Sh_init 73 = .ok (.putfield 33, 3) := by decide +kernel
theorem d_Sh_init_76 : decode b_Sh_init 76 = .ok (.aload_n 0, 1) := by decide +kernel
theorem d_Sh_init_77 : decode b_Sh_init 77 = .ok (.new 9, 3) := by decide +kernel
theorem d_Sh_init_80 : decode b_Sh_init 80 = .ok (.dup, 1) := by decide +kernel
theorem d_Sh_init_81 : decode b_Sh_init 81 = .ok (.iload_n 1, 1) := by decide +kernel
theorem d_Sh_init_82 : decode b_Sh_init 82 = .ok (.invokespecial 11, 3) := by decide +kernel
theorem d_Sh_init_85 : decode b_Sh_init 85 = .ok (.putfield 36, 3) := by decide +kernel
theorem d_Sh_init_88 : decode b_Sh_init 88 = .ok (.aload_n 0, 1) := by decide +kernel
theorem d_Sh_init_89 : decode b_Sh_init 89 = .ok (.new 9, 3) := by decide +kernel
theorem d_Sh_init_92 : decode b_Sh_init 92 = .ok (.dup, 1) := by decide +kernel
theorem d_Sh_init_93 : decode b_Sh_init 93 = .ok (.iload_n 1, 1) := by decide +kernel
theorem d_Sh_init_94 : decode b_Sh_init 94 = .ok (.invokespecial 11, 3) := by decide +kernel
theorem d_Sh_init_97 : decode b_Sh_init 97 = .ok (.putfield 39, 3) := by decide +kernel
theorem d_Sh_init_100 : decode b_Sh_init 100 = .ok (.iconst 0, 1) := by decide +kernel
theorem d_Sh_init_101 : decode b_Sh_init 101 = .ok (.istore_n 2, 1) := by decide +kernel
theorem d_Sh_init_102 : decode b_Sh_init 102 = .ok (.iload_n 2, 1) := by decide +kernel
theorem d_Sh_init_103 : decode b_Sh_init 103 = .ok (.bipush 63, 2) := by decide +kernel
theorem d_Sh_init_105 : decode b_Sh_init 105 = .ok (.if_icmp .gt 17, 3) := by decide +kernel
theorem d_Sh_init_108 : decode b_Sh_init 108 = .ok (.aload_n 0, 1) := by decide +kernel
theorem d_Sh_init_109 : decode b_Sh_init 109 = .ok (.getfield 20, 3) := by decide +kernel
theorem d_Sh_init_112 : decode b_Sh_init 112 = .ok (.iconst (-1), 1) := by decide +kernel
theorem d_Sh_init_113 : decode b_Sh_init 113 = .ok (.invokevirtual 42, 3) := by decide +kernel
theorem d_Sh_init_116 : decode b_Sh_init 116 = .ok (.iinc 2 1, 3) := by decide +kernel
theorem d_Sh_init_119 : decode b_Sh_init 119 = .ok (.goto (-17), 3) := by decide +kernel
theorem d_Sh_init_122 : decode b_Sh_init 122 = .ok (.aload_n 0, 1) := by decide +kernel
theorem d_Sh_init_123 : decode b_Sh_init 123 = .ok (.iconst 0, 1) := by decide +kernel
theorem d_Sh_init_124 : decode b_Sh_init 124 = .ok (.putfield 45, 3) := by decide +kernel
theorem d_Sh_init_127 : decode b_Sh_init 127 = .ok (.return_, 1) := by decide +kernel
