theorem d_Wb_init_0 : decode b_Wb_init 0 = .ok (.aload_n 0, 1) := by decide +kernel
theorem d_Wb_init_1 : decode b_Wb_init 1 = .ok (.invokespecial 3, 3) := by decide +kernel
theorem d_Wb_init_4 : decode b_Wb_init 4 = .ok (.aload_n 0, 1) := by decide +kernel
theorem d_Wb_init_5 : decode b_Wb_init 5 = .ok (.invokestatic 9, 3) := by decide +kernel
theorem d_Wb_init_8 : decode b_Wb_init 8 = .ok (.putfield 13, 3) := by decide +kernel
theorem d_Wb_init_11 : decode b_Wb_init 11 = .ok (.aload_n 0, 1) := by decide +kernel
theorem d_Wb_init_12 : decode b_Wb_init 12 = .ok (.new 17, 3) := by decide +kernel
theorem d_Wb_init_15 : decode b_Wb_init 15 = .ok (.dup, 1) := by decide +kernel
theorem d_Wb_init_16 : decode b_Wb_init 16 = .ok (.sipush 4000, 3) := by decide +kernel
theorem d_Wb_init_19 : decode b_Wb_init 19 = .ok (.invokespecial 19, 3) := by decide +kernel
theorem d_Wb_init_22 : decode b_Wb_init 22 = .ok (.putfield 22, 3) := by decide +kernel
theorem d_Wb_init_25 : decode b_Wb_init 25 = .ok (.aload_n 0, 1) := by decide +kernel
theorem d_Wb_init_26 : decode b_Wb_init 26 = .ok (.new 17, 3) := by decide +kernel
theorem d_Wb_init_29 : decode b_Wb_init 29 = .ok (.dup, 1) := by decide +kernel
theorem d_Wb_init_30 : decode b_Wb_init 30 = .ok (.sipush 8000, 3) := by decide +kernel
theorem d_Wb_init_33 : decode b_Wb_init 33 = .ok (.invokespecial 19, 3) := by decide +kernel
theorem d_Wb_init_36 : decode b_Wb_init 36 = .ok (.putfield 25, 3) := by decide +kernel
theorem d_Wb_init_39 : decode b_Wb_init 39 = .ok (.aload_n 0, 1) := by decide +kernel
theorem d_Wb_init_40 : decode b_Wb_init 40 = .ok (.new 28, 3) := by decide +kernel
theorem d_Wb_init_43 : decode b_Wb_init 43 = .ok (.dup, 1) := by decide +kernel
theorem d_Wb_init_44 : decode b_Wb_init 44 = .ok (.sipush 1000, 3) := by decide +kernel
theorem d_Wb_init_47 : decode b_Wb_init 47 = .ok (.invokespecial 30, 3) := by decide +kernel
theorem d_Wb_init_50 : decode b_Wb_init 50 = .ok (.putfield 31, 3) := by decide +kernel
theorem d_Wb_init_53 : decode b_Wb_init 53 = .ok (.aload_n 0, 1) := by decide +kernel
theorem d_Wb_init_54 : decode b_Wb_init 54 = .ok (.new 28, 3) := by decide +kernel
theorem d_Wb_init_57 : decode b_Wb_init 57 = .ok (.dup, 1) := by decide +kernel
theorem d_Wb_init_58 : decode b_Wb_init 58 = .ok (.sipush 300, 3) := by decide +kernel
theorem d_Wb_init_61 : decode b_Wb_init 61 = .ok (.invokespecial 30, 3) := by decide +kernel
theorem d_Wb_init_64 : decode b_Wb_init 64 = .ok (.putfield 35, 3) := by decide +kernel
theorem d_Wb_init_67 : decode b_Wb_init 67 = .ok (.aload_n 0, 1) := by decide +kernel
theorem d_Wb_init_68 : decode b_Wb_init 68 = .ok (.new 38, 3) := by decide +kernel
theorem d_Wb_init_71 : decode b_Wb_init 71 = .ok (.dup, 1) := by decide +kernel
theorem d_Wb_init_72 : decode b_Wb_init 72 = .ok (.invokespecial 40, 3) := by decide +kernel
theorem d_Wb_init_75 : decode b_Wb_init 75 = .ok (.putfield 41, 3) := by decide +kernel
theorem d_Wb_init_78 : decode b_Wb_init 78 = .ok (.aload_n 0, 1) := by decide +kernel
theorem d_Wb_init_79 : decode b_Wb_init 79 = .ok (.new 45, 3) := by decide +kernel
theorem d_Wb_init_82 : decode b_Wb_init 82 = .ok (.dup, 1) := by decide +kernel
theorem d_Wb_init_83 : decode b_Wb_init 83 = .ok (.invokespecial 47, 3) := by decide +kernel
theorem d_Wb_init_86 : decode b_Wb_init 86 = .ok (.putfield 48, 3) := by decide +kernel
theorem d_Wb_init_89 : decode b_Wb_init 89 = .ok (.aload_n 0, 1) := by decide +kernel
theorem d_Wb_init_90 : decode b_Wb_init 90 = .ok (.new 45, 3) := by decide +kernel
theorem d_Wb_init_93 : decode b_Wb_init 93 = .ok (.dup, 1) := by decide +kernel
theorem d_Wb_init_94 : decode b_Wb_init 94 = .ok (.invokespecial 47, 3) := by decide +kernel
theorem d_Wb_init_97 : decode b_Wb_init 97 = .ok (.putfield 52, 3) := by decide +kernel
theorem d_Wb_init_100 : decode b_Wb_init 100 = .ok (.aload_n 0, 1) := by decide +kernel
theorem d_Wb_init_101 : decode b_Wb_init 101 = .ok (.iconst 2, 1) := by decide +kernel
theorem d_Wb_init_102 : decode b_Wb_init 102 = .ok (.putfield 55, 3) := by decide +kernel
theorem d_Wb_init_105 : decode b_Wb_init 105 = .ok (.aload_n 0, 1) := by decide +kernel
theorem d_Wb_init_106 : decode b_Wb_init 106 = .ok (.iconst 3, 1) := by decide +kernel
theorem d_Wb_init_107 : decode b_Wb_init 107 = .ok (.putfield 59, 3) := by decide +kernel
theorem d_Wb_init_110 : decode b_Wb_init 110 = .ok (.return_, 1) := by decide +kernel
