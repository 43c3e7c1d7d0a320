theorem d_firstLetters_0 : decode b_firstLetters 0 = .ok (.new 17, 3) := by decide +kernel
theorem d_firstLetters_3 : decode b_firstLetters 3 = .ok (.dup, 1) := by decide +kernel
theorem d_firstLetters_4 : decode b_firstLetters 4 = .ok (.sipush 256, 3) := by decide +kernel
theorem d_firstLetters_7 : decode b_firstLetters 7 = .ok (.invokespecial 19, 3) := by decide +kernel
theorem d_firstLetters_10 : decode b_firstLetters 10 = .ok (.astore_n 0, 1) := by decide +kernel
theorem d_firstLetters_11 : decode b_firstLetters 11 = .ok (.iconst 0, 1) := by decide +kernel
theorem d_firstLetters_12 : decode b_firstLetters 12 = .ok (.istore_n 1, 1) := by decide +kernel
theorem d_firstLetters_13 : decode b_firstLetters 13 = .ok (.iload_n 1, 1) := by decide +kernel
theorem d_firstLetters_14 : decode b_firstLetters 14 = .ok (.sipush 256, 3) := by decide +kernel
theorem d_firstLetters_17 : decode b_firstLetters 17 = .ok (.if_icmp .ge 17, 3) := by decide +kernel
theorem d_firstLetters_20 : decode b_firstLetters 20 = .ok (.aload_n 0, 1) := by decide +kernel
theorem d_firstLetters_21 : decode b_firstLetters 21 = .ok (.iload_n 1, 1) := by decide +kernel
theorem d_firstLetters_22 : decode b_firstLetters 22 = .ok (.invokestatic 120, 3) := by decide +kernel
theorem d_firstLetters_25 : decode b_firstLetters 25 = .ok (.invokevirtual 73, 3) := by decide +kernel
theorem d_firstLetters_28 : decode b_firstLetters 28 = .ok (.iinc 1 1, 3) := by decide +kernel
theorem d_firstLetters_31 : decode b_firstLetters 31 = .ok (.goto (-18), 3) := by decide +kernel
theorem d_firstLetters_34 : decode b_firstLetters 34 = .ok (.aload_n 0, 1) := by decide +kernel
theorem d_firstLetters_35 : decode b_firstLetters 35 = .ok (.areturn, 1) := by decide +kernel
theorem d_En_init_0 : decode b_En_init 0 = .ok (.aload_n 0, 1) := by decide +kernel
theorem d_En_init_1 : decode b_En_init 1 = .ok (.invokespecial 3, 3) := by decide +kernel
theorem d_En_init_4 : decode b_En_init 4 = .ok (.aload_n 0, 1) := by decide +kernel
theorem d_En_init_5 : decode b_En_init 5 = .ok (.new 9, 3) := by decide +kernel
theorem d_En_init_8 : decode b_En_init 8 = .ok (.dup, 1) := by decide +kernel
theorem d_En_init_9 : decode b_En_init 9 = .ok (.bipush 63, 2) := by decide +kernel
theorem d_En_init_11 : decode b_En_init 11 = .ok (.invokespecial 11, 3) := by decide +kernel
theorem d_En_init_14 : decode b_En_init 14 = .ok (.putfield 14, 3) := by decide +kernel
theorem d_En_init_17 : decode b_En_init 17 = .ok (.aload_n 0, 1) := by decide +kernel
theorem d_En_init_18 : decode b_En_init 18 = .ok (.new 9, 3) := by decide +kernel
theorem d_En_init_21 : decode b_En_init 21 = .ok (.dup, 1) := by decide +kernel
theorem d_En_init_22 : decode b_En_init 22 = .ok (.bipush 64, 2) := by decide +kernel
theorem d_En_init_24 : decode b_En_init 24 = .ok (.invokespecial 11, 3) := by decide +kernel
theorem d_En_init_27 : decode b_En_init 27 = .ok (.putfield 20, 3) := by decide +kernel
theorem d_En_init_30 : decode b_En_init 30 = .ok (.return_, 1) := by decide +kernel
theorem d_Bw_init_0 : decode b_Bw_init 0 = .ok (.aload_n 0, 1) := by decide +kernel
theorem d_Bw_init_1 : decode b_Bw_init 1 = .ok (.invokespecial 3, 3) := by decide +kernel
theorem d_Bw_init_4 : decode b_Bw_init 4 = .ok (.aload_n 0, 1) := by decide +kernel
theorem d_Bw_init_5 : decode b_Bw_init 5 = .ok (.new 9, 3) := by decide +kernel
theorem d_Bw_init_8 : decode b_Bw_init 8 = .ok (.dup, 1) := by decide +kernel
theorem d_Bw_init_9 : decode b_Bw_init 9 = .ok (.bipush 63, 2) := by decide +kernel
theorem d_Bw_init_11 : decode b_Bw_init 11 = .ok (.invokespecial 11, 3) := by decide +kernel
theorem d_Bw_init_14 : decode b_Bw_init 14 = .ok (.putfield 14, 3) := by decide +kernel
theorem d_Bw_init_17 : decode b_Bw_init 17 = .ok (.aload_n 0, 1) := by decide +kernel
theorem d_Bw_init_18 : decode b_Bw_init 18 = .ok (.new 9, 3) := by decide +kernel
theorem d_Bw_init_21 : decode b_Bw_init 21 = .ok (.dup, 1) := by decide +kernel
theorem d_Bw_init_22 : decode b_Bw_init 22 = .ok (.bipush 63, 2) := by decide +kernel
theorem d_Bw_init_24 : decode b_Bw_init 24 = .ok (.invokespecial 11, 3) := by decide +kernel
theorem d_Bw_init_27 : decode b_Bw_init 27 = .ok (.putfield 20, 3) := by decide +kernel
theorem d_Bw_init_30 : decode b_Bw_init 30 = .ok (.aload_n 0, 1) := by decide +kernel
theorem d_Bw_init_31 : decode b_Bw_init 31 = .ok (.new 9, 3) := by decide +kernel
theorem d_Bw_init_34 : decode b_Bw_init 34 = .ok (.dup, 1) := by decide +kernel
theorem d_Bw_init_35 : decode b_Bw_init 35 = .ok (.bipush 63, 2) := by decide +kernel
theorem d_Bw_init_37 : decode b_Bw_init 37 = .ok (.invokespecial 11, 3) := by decide +kernel
theorem d_Bw_init_40 : decode b_Bw_init 40 = .ok (.putfield 23, 3) := by decide +kernel
theorem d_Bw_init_43 : decode b_Bw_init 43 = .ok (.return_, 1) := by decide +kernel
