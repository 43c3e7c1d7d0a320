theorem d_byteOf_0 : decode b_byteOf 0 = .ok (.lload_n 0, 1) := by decide +kernel
theorem d_byteOf_1 : decode b_byteOf 1 = .ok (.bipush 8, 2) := by decide +kernel
theorem d_byteOf_3 : decode b_byteOf 3 = .ok (.iload_n 2, 1) := by decide +kernel
theorem d_byteOf_4 : decode b_byteOf 4 = .ok (.imul, 1) := by decide +kernel
theorem d_byteOf_5 : decode b_byteOf 5 = .ok (.lushr, 1) := by decide +kernel
theorem d_byteOf_6 : decode b_byteOf 6 = .ok (.l2i, 1) := by decide +kernel
theorem d_byteOf_7 : decode b_byteOf 7 = .ok (.sipush 255, 3) := by decide +kernel
theorem d_byteOf_10 : decode b_byteOf 10 = .ok (.iand, 1) := by decide +kernel
theorem d_byteOf_11 : decode b_byteOf 11 = .ok (.ireturn, 1) := by decide +kernel
theorem d_hasZero_0 : decode b_hasZero 0 = .ok (.iconst 0, 1) := by decide +kernel
theorem d_hasZero_1 : decode b_hasZero 1 = .ok (.istore_n 3, 1) := by decide +kernel
theorem d_hasZero_2 : decode b_hasZero 2 = .ok (.iload_n 3, 1) := by decide +kernel
theorem d_hasZero_3 : decode b_hasZero 3 = .ok (.iload_n 2, 1) := by decide +kernel
theorem d_hasZero_4 : decode b_hasZero 4 = .ok (.if_icmp .ge 19, 3) := by decide +kernel
theorem d_hasZero_7 : decode b_hasZero 7 = .ok (.lload_n 0, 1) := by decide +kernel
theorem d_hasZero_8 : decode b_hasZero 8 = .ok (.iload_n 3, 1) := by decide +kernel
theorem d_hasZero_9 : decode b_hasZero 9 = .ok (.invokestatic 69, 3) := by decide +kernel
theorem d_hasZero_12 : decode b_hasZero 12 = .ok (.ifCond .ne 5, 3) := by decide +kernel
theorem d_hasZero_15 : decode b_hasZero 15 = .ok (.iconst 1, 1) := by decide +kernel
theorem d_hasZero_16 : decode b_hasZero 16 = .ok (.ireturn, 1) := by decide +kernel
theorem d_hasZero_17 : decode b_hasZero 17 = .ok (.iinc 3 1, 3) := by decide +kernel
theorem d_hasZero_20 : decode b_hasZero 20 = .ok (.goto (-18), 3) := by decide +kernel
theorem d_hasZero_23 : decode b_hasZero 23 = .ok (.iconst 0, 1) := by decide +kernel
theorem d_hasZero_24 : decode b_hasZero 24 = .ok (.ireturn, 1) := by decide +kernel
theorem d_isDigit_0 : decode b_isDigit 0 = .ok (.iload_n 0, 1) := by decide +kernel
theorem d_isDigit_1 : decode b_isDigit 1 = .ok (.bipush 48, 2) := by decide +kernel
theorem d_isDigit_3 : decode b_isDigit 3 = .ok (.if_icmp .lt 13, 3) := by decide +kernel
theorem d_isDigit_6 : decode b_isDigit 6 = .ok (.iload_n 0, 1) := by decide +kernel
theorem d_isDigit_7 : decode b_isDigit 7 = .ok (.bipush 57, 2) := by decide +kernel
theorem d_isDigit_9 : decode b_isDigit 9 = .ok (.if_icmp .gt 7, 3) := by decide +kernel
theorem d_isDigit_12 : decode b_isDigit 12 = .ok (.iconst 1, 1) := by decide +kernel
theorem d_isDigit_13 : decode b_isDigit 13 = .ok (.goto 4, 3) := by decide +kernel
theorem d_isDigit_16 : decode b_isDigit 16 = .ok (.iconst 0, 1) := by decide +kernel
theorem d_isDigit_17 : decode b_isDigit 17 = .ok (.ireturn, 1) := by decide +kernel
theorem d_neverALetter_0 : decode b_neverALetter 0 = .ok (.iload_n 0, 1) := by decide +kernel
theorem d_neverALetter_1 : decode b_neverALetter 1 = .ok (.bipush 32, 2) := by decide +kernel
theorem d_neverALetter_3 : decode b_neverALetter 3 = .ok (.if_icmp .eq 22, 3) := by decide +kernel
theorem d_neverALetter_6 : decode b_neverALetter 6 = .ok (.iload_n 0, 1) := by decide +kernel
theorem d_neverALetter_7 : decode b_neverALetter 7 = .ok (.bipush 45, 2) := by decide +kernel
theorem d_neverALetter_9 : decode b_neverALetter 9 = .ok (.if_icmp .eq 16, 3) := by decide +kernel
theorem d_neverALetter_12 : decode b_neverALetter 12 = .ok (.iload_n 0, 1) := by decide +kernel
theorem d_neverALetter_13 : decode b_neverALetter 13 = .ok (.bipush 46, 2) := by decide +kernel
theorem d_neverALetter_15 : decode b_neverALetter 15 = .ok (.if_icmp .eq 10, 3) := by decide +kernel
theorem d_neverALetter_18 : decode b_neverALetter 18 = .ok (.iload_n 0, 1) := by decide +kernel
theorem d_neverALetter_19 : decode b_neverALetter 19 = .ok (.invokestatic 123, 3) := by decide +kernel
theorem d_neverALetter_22 : decode b_neverALetter 22 = .ok (.ifCond .eq 7, 3) := by decide +kernel
theorem d_neverALetter_25 : decode b_neverALetter 25 = .ok (.iconst 1, 1) := by decide +kernel
theorem d_neverALetter_26 : decode b_neverALetter 26 = .ok (.goto 4, 3) := by decide +kernel
theorem d_neverALetter_29 : decode b_neverALetter 29 = .ok (.iconst 0, 1) := by decide +kernel
theorem d_neverALetter_30 : decode b_neverALetter 30 = .ok (.ireturn, 1) := by decide +kernel
theorem d_faultAnswer_0 : decode b_faultAnswer 0 = .ok (.sipush (-10000), 3) := by decide +kernel
theorem d_faultAnswer_3 : decode b_faultAnswer 3 = .ok (.iload_n 0, 1) := by decide +kernel
theorem d_faultAnswer_4 : decode b_faultAnswer 4 = .ok (.imul, 1) := by decide +kernel
theorem d_faultAnswer_5 : decode b_faultAnswer 5 = .ok (.iload_n 1, 1) := by decide +kernel
theorem d_faultAnswer_6 : decode b_faultAnswer 6 = .ok (.isub, 1) := by decide +kernel
theorem d_faultAnswer_7 : decode b_faultAnswer 7 = .ok (.ireturn, 1) := by decide +kernel
theorem d_firstLetterOf_0 : decode b_firstLetterOf 0 = .ok (.iload_n 0, 1) := by decide +kernel
theorem d_firstLetterOf_1 : decode b_firstLetterOf 1 = .ok (.bipush 97, 2) := by decide +kernel
theorem d_firstLetterOf_3 : decode b_firstLetterOf 3 = .ok (.if_icmp .lt 16, 3) := by decide +kernel
theorem d_firstLetterOf_6 : decode b_firstLetterOf 6 = .ok (.iload_n 0, 1) := by decide +kernel
theorem d_firstLetterOf_7 : decode b_firstLetterOf 7 = .ok (.bipush 122, 2) := by decide +kernel
theorem d_firstLetterOf_9 : decode b_firstLetterOf 9 = .ok (.if_icmp .gt 10, 3) := by decide +kernel
theorem d_firstLetterOf_12 : decode b_firstLetterOf 12 = .ok (.iload_n 0, 1) := by decide +kernel
theorem d_firstLetterOf_13 : decode b_firstLetterOf 13 = .ok (.bipush 97, 2) := by decide +kernel
theorem d_firstLetterOf_15 : decode b_firstLetterOf 15 = .ok (.isub, 1) := by decide +kernel
theorem d_firstLetterOf_16 : decode b_firstLetterOf 16 = .ok (.iconst 1, 1) := by decide +kernel
theorem d_firstLetterOf_17 : decode b_firstLetterOf 17 = .ok (.iadd, 1) := by decide +kernel
theorem d_firstLetterOf_18 : decode b_firstLetterOf 18 = .ok (.ireturn, 1) := by decide +kernel
theorem d_firstLetterOf_19 : decode b_firstLetterOf 19 = .ok (.iload_n 0, 1) := by decide +kernel
theorem d_firstLetterOf_20 : decode b_firstLetterOf 20 = .ok (.bipush 65, 2) := by decide +kernel
theorem d_firstLetterOf_22 : decode b_firstLetterOf 22 = .ok (.if_icmp .lt 18, 3) := by decide +kernel
theorem d_firstLetterOf_25 : decode b_firstLetterOf 25 = .ok (.iload_n 0, 1) := by decide +kernel
theorem d_firstLetterOf_26 : decode b_firstLetterOf 26 = .ok (.bipush 90, 2) := by decide +kernel
theorem d_firstLetterOf_28 : decode b_firstLetterOf 28 = .ok (.if_icmp .gt 12, 3) := by decide +kernel
theorem d_firstLetterOf_31 : decode b_firstLetterOf 31 = .ok (.iload_n 0, 1) := by decide +kernel
theorem d_firstLetterOf_32 : decode b_firstLetterOf 32 = .ok (.bipush 65, 2) := by decide +kernel
theorem d_firstLetterOf_34 : decode b_firstLetterOf 34 = .ok (.isub, 1) := by decide +kernel
theorem d_firstLetterOf_35 : decode b_firstLetterOf 35 = .ok (.iconst 1, 1) := by decide +kernel
theorem d_firstLetterOf_36 : decode b_firstLetterOf 36 = .ok (.iadd, 1) := by decide +kernel
theorem d_firstLetterOf_37 : decode b_firstLetterOf 37 = .ok (.goto 4, 3) := by decide +kernel
theorem d_firstLetterOf_40 : decode b_firstLetterOf 40 = .ok (.iconst 0, 1) := by decide +kernel
theorem d_firstLetterOf_41 : decode b_firstLetterOf 41 = .ok (.ireturn, 1) := by decide +kernel
