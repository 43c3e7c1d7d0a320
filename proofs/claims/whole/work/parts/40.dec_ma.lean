theorem d_M_isDigit_0 : decode b_M_isDigit 0 = .ok (.iload_n 0, 1) := by decide +kernel
theorem d_M_isDigit_1 : decode b_M_isDigit 1 = .ok (.bipush 48, 2) := by decide +kernel
theorem d_M_isDigit_3 : decode b_M_isDigit 3 = .ok (.if_icmp .lt 13, 3) := by decide +kernel
theorem d_M_isDigit_6 : decode b_M_isDigit 6 = .ok (.iload_n 0, 1) := by decide +kernel
theorem d_M_isDigit_7 : decode b_M_isDigit 7 = .ok (.bipush 57, 2) := by decide +kernel
theorem d_M_isDigit_9 : decode b_M_isDigit 9 = .ok (.if_icmp .gt 7, 3) := by decide +kernel
theorem d_M_isDigit_12 : decode b_M_isDigit 12 = .ok (.iconst 1, 1) := by decide +kernel
theorem d_M_isDigit_13 : decode b_M_isDigit 13 = .ok (.goto 4, 3) := by decide +kernel
theorem d_M_isDigit_16 : decode b_M_isDigit 16 = .ok (.iconst 0, 1) := by decide +kernel
theorem d_M_isDigit_17 : decode b_M_isDigit 17 = .ok (.ireturn, 1) := by decide +kernel
theorem d_M_fault_0 : decode b_M_fault 0 = .ok (.sipush (-10000), 3) := by decide +kernel
theorem d_M_fault_3 : decode b_M_fault 3 = .ok (.iload_n 0, 1) := by decide +kernel
theorem d_M_fault_4 : decode b_M_fault 4 = .ok (.imul, 1) := by decide +kernel
theorem d_M_fault_5 : decode b_M_fault 5 = .ok (.iload_n 1, 1) := by decide +kernel
theorem d_M_fault_6 : decode b_M_fault 6 = .ok (.isub, 1) := by decide +kernel
theorem d_M_fault_7 : decode b_M_fault 7 = .ok (.ireturn, 1) := by decide +kernel
theorem d_M_type_0 : decode b_M_type 0 = .ok (.iload_n 3, 1) := by decide +kernel
theorem d_M_type_1 : decode b_M_type 1 = .ok (.iconst 1, 1) := by decide +kernel
theorem d_M_type_2 : decode b_M_type 2 = .ok (.if_icmp .lt 21, 3) := by decide +kernel
theorem d_M_type_5 : decode b_M_type 5 = .ok (.iload_n 3, 1) := by decide +kernel
theorem d_M_type_6 : decode b_M_type 6 = .ok (.bipush 8, 2) := by decide +kernel
theorem d_M_type_8 : decode b_M_type 8 = .ok (.if_icmp .gt 15, 3) := by decide +kernel
theorem d_M_type_11 : decode b_M_type 11 = .ok (.aload_n 0, 1) := by decide +kernel
theorem d_M_type_12 : decode b_M_type 12 = .ok (.getfield 81, 3) := by decide +kernel
theorem d_M_type_15 : decode b_M_type 15 = .ok (.iload_n 3, 1) := by decide +kernel
theorem d_M_type_16 : decode b_M_type 16 = .ok (.iadd, 1) := by decide +kernel
theorem d_M_type_17 : decode b_M_type 17 = .ok (.sipush 4000, 3) := by decide +kernel
theorem d_M_type_20 : decode b_M_type 20 = .ok (.if_icmp .le 5, 3) := by decide +kernel
theorem d_M_type_23 : decode b_M_type 23 = .ok (.iconst 0, 1) := by decide +kernel
theorem d_M_type_24 : decode b_M_type 24 = .ok (.ireturn, 1) := by decide +kernel
theorem d_M_type_25 : decode b_M_type 25 = .ok (.iconst 0, 1) := by decide +kernel
theorem d_M_type_26 : decode b_M_type 26 = .ok (.istore 4, 2) := by decide +kernel
theorem d_M_type_28 : decode b_M_type 28 = .ok (.iload 4, 2) := by decide +kernel
theorem d_M_type_30 : decode b_M_type 30 = .ok (.iload_n 3, 1) := by decide +kernel
theorem d_M_type_31 : decode b_M_type 31 = .ok (.if_icmp .ge 27, 3) := by decide +kernel
theorem d_M_type_34 : decode b_M_type 34 = .ok (.lload_n 1, 1) := by decide +kernel
theorem d_M_type_35 : decode b_M_type 35 = .ok (.bipush 8, 2) := by decide +kernel
theorem d_M_type_37 : decode b_M_type 37 = .ok (.iload 4, 2) := by decide +kernel
theorem d_M_type_39 : decode b_M_type 39 = .ok (.imul, 1) := by decide +kernel
theorem d_M_type_40 : decode b_M_type 40 = .ok (.lshr, 1) := by decide +kernel
theorem d_M_type_41 : decode b_M_type 41 = .ok (.ldc2_w 84, 3) := by decide +kernel
theorem d_M_type_44 : decode b_M_type 44 = .ok (.land, 1) := by decide +kernel
theorem d_M_type_45 : decode b_M_type 45 = .ok (.lconst 0, 1) := by decide +kernel
theorem d_M_type_46 : decode b_M_type 46 = .ok (.lcmp, 1) := by decide +kernel
theorem d_M_type_47 : decode b_M_type 47 = .ok (.ifCond .ne 5, 3) := by decide +kernel
theorem d_M_type_50 : decode b_M_type 50 = .ok (.iconst 0, 1) := by decide +kernel
theorem d_M_type_51 : decode b_M_type 51 = .ok (.ireturn, 1) := by decide +kernel
theorem d_M_type_52 : decode b_M_type 52 = .ok (.iinc 4 1, 3) := by decide +kernel
theorem d_M_type_55 : decode b_M_type 55 = .ok (.goto (-27), 3) := by decide +kernel
theorem d_M_type_58 : decode b_M_type 58 = .ok (.iconst 0, 1) := by decide +kernel
theorem d_M_type_59 : decode b_M_type 59 = .ok (.istore 4, 2) := by decide +kernel
theorem d_M_type_61 : decode b_M_type 61 = .ok (.iload 4, 2) := by decide +kernel
theorem d_M_type_63 : decode b_M_type 63 = .ok (.iload_n 3, 1) := by decide +kernel
theorem d_M_type_64 : decode b_M_type 64 = .ok (.if_icmp .ge 40, 3) := by decide +kernel
theorem d_M_type_67 : decode b_M_type 67 = .ok (.aload_n 0, 1) := by decide +kernel
theorem d_M_type_68 : decode b_M_type 68 = .ok (.getfield 20, 3) := by decide +kernel
theorem d_M_type_71 : decode b_M_type 71 = .ok (.aload_n 0, 1) := by decide +kernel
theorem d_M_type_72 : decode b_M_type 72 = .ok (.getfield 81, 3) := by decide +kernel
theorem d_M_type_75 : decode b_M_type 75 = .ok (.lload_n 1, 1) := by decide +kernel
theorem d_M_type_76 : decode b_M_type 76 = .ok (.bipush 8, 2) := by decide +kernel
theorem d_M_type_78 : decode b_M_type 78 = .ok (.iload 4, 2) := by decide +kernel
theorem d_M_type_80 : decode b_M_type 80 = .ok (.imul, 1) := by decide +kernel
theorem d_M_type_81 : decode b_M_type 81 = .ok (.lshr, 1) := by decide +kernel
theorem d_M_type_82 : decode b_M_type 82 = .ok (.ldc2_w 84, 3) := by decide +kernel
theorem d_M_type_85 : decode b_M_type 85 = .ok (.land, 1) := by decide +kernel
theorem d_M_type_86 : decode b_M_type 86 = .ok (.l2i, 1) := by decide +kernel
theorem d_M_type_87 : decode b_M_type 87 = .ok (.iastore, 1) := by decide +kernel
theorem d_M_type_88 : decode b_M_type 88 = .ok (.aload_n 0, 1) := by decide +kernel
theorem d_M_type_89 : decode b_M_type 89 = .ok (.dup, 1) := by decide +kernel
theorem d_M_type_90 : decode b_M_type 90 = .ok (.getfield 81, 3) := by decide +kernel
theorem d_M_type_93 : decode b_M_type 93 = .ok (.iconst 1, 1) := by decide +kernel
theorem d_M_type_94 : decode b_M_type 94 = .ok (.iadd, 1) := by decide +kernel
theorem d_M_type_95 : decode b_M_type 95 = .ok (.putfield 81, 3) := by decide +kernel
theorem d_M_type_98 : decode b_M_type 98 = .ok (.iinc 4 1, 3) := by decide +kernel
theorem d_M_type_101 : decode b_M_type 101 = .ok (.goto (-40), 3) := by decide +kernel
theorem d_M_type_104 : decode b_M_type 104 = .ok (.iconst 1, 1) := by decide +kernel
theorem d_M_type_105 : decode b_M_type 105 = .ok (.ireturn, 1) := by decide +kernel
theorem d_M_letter_0 : decode b_M_letter 0 = .ok (.iload_n 1, 1) := by decide +kernel
theorem d_M_letter_1 : decode b_M_letter 1 = .ok (.iconst 1, 1) := by decide +kernel
theorem d_M_letter_2 : decode b_M_letter 2 = .ok (.if_icmp .lt 45, 3) := by decide +kernel
theorem d_M_letter_5 : decode b_M_letter 5 = .ok (.iload_n 1, 1) := by decide +kernel
theorem d_M_letter_6 : decode b_M_letter 6 = .ok (.sipush 255, 3) := by decide +kernel
theorem d_M_letter_9 : decode b_M_letter 9 = .ok (.if_icmp .gt 38, 3) := by decide +kernel
theorem d_M_letter_12 : decode b_M_letter 12 = .ok (.iload_n 1, 1) := by decide +kernel
theorem d_M_letter_13 : decode b_M_letter 13 = .ok (.bipush 32, 2) := by decide +kernel
theorem d_M_letter_15 : decode b_M_letter 15 = .ok (.if_icmp .eq 32, 3) := by decide +kernel
theorem d_M_letter_18 : decode b_M_letter 18 = .ok (.iload_n 1, 1) := by decide +kernel
theorem d_M_letter_19 : decode b_M_letter 19 = .ok (.bipush 45, 2) := by decide +kernel
theorem d_M_letter_21 : decode b_M_letter 21 = .ok (.if_icmp .eq 26, 3) := by decide +kernel
theorem d_M_letter_24 : decode b_M_letter 24 = .ok (.iload_n 1, 1) := by decide +kernel
theorem d_M_letter_25 : decode b_M_letter 25 = .ok (.bipush 46, 2) := by decide +kernel
theorem d_M_letter_27 : decode b_M_letter 27 = .ok (.if_icmp .eq 20, 3) := by decide +kernel
theorem d_M_letter_30 : decode b_M_letter 30 = .ok (.iload_n 1, 1) := by decide +kernel
theorem d_M_letter_31 : decode b_M_letter 31 = .ok (.invokestatic 86, 3) := by decide +kernel
theorem d_M_letter_34 : decode b_M_letter 34 = .ok (.ifCond .ne 13, 3) := by decide +kernel
theorem d_M_letter_37 : decode b_M_letter 37 = .ok (.iload_n 2, 1) := by decide +kernel
theorem d_M_letter_38 : decode b_M_letter 38 = .ok (.ifCond .lt 9, 3) := by decide +kernel
theorem d_M_letter_41 : decode b_M_letter 41 = .ok (.iload_n 2, 1) := by decide +kernel
theorem d_M_letter_42 : decode b_M_letter 42 = .ok (.bipush 63, 2) := by decide +kernel
theorem d_M_letter_44 : decode b_M_letter 44 = .ok (.if_icmp .le 5, 3) := by decide +kernel
theorem d_M_letter_47 : decode b_M_letter 47 = .ok (.iconst 0, 1) := by decide +kernel
theorem d_M_letter_48 : decode b_M_letter 48 = .ok (.ireturn, 1) := by decide +kernel
theorem d_M_letter_49 : decode b_M_letter 49 = .ok (.aload_n 0, 1) := by decide +kernel
theorem d_M_letter_50 : decode b_M_letter 50 = .ok (.getfield 7, 3) := by decide +kernel
theorem d_M_letter_53 : decode b_M_letter 53 = .ok (.iload_n 1, 1) := by decide +kernel
theorem d_M_letter_54 : decode b_M_letter 54 = .ok (.iload_n 2, 1) := by decide +kernel
theorem d_M_letter_55 : decode b_M_letter 55 = .ok (.iastore, 1) := by decide +kernel
theorem d_M_letter_56 : decode b_M_letter 56 = .ok (.iconst 1, 1) := by decide +kernel
theorem d_M_letter_57 : decode b_M_letter 57 = .ok (.ireturn, 1) := by decide +kernel
theorem d_M_least_0 : decode b_M_least 0 = .ok (.iload_n 1, 1) := by decide +kernel
theorem d_M_least_1 : decode b_M_least 1 = .ok (.iconst 1, 1) := by decide +kernel
theorem d_M_least_2 : decode b_M_least 2 = .ok (.if_icmp .lt 20, 3) := by decide +kernel
theorem d_M_least_5 : decode b_M_least 5 = .ok (.iload_n 1, 1) := by decide +kernel
theorem d_M_least_6 : decode b_M_least 6 = .ok (.bipush 63, 2) := by decide +kernel
theorem d_M_least_8 : decode b_M_least 8 = .ok (.if_icmp .gt 14, 3) := by decide +kernel
theorem d_M_least_11 : decode b_M_least 11 = .ok (.iload_n 2, 1) := by decide +kernel
theorem d_M_least_12 : decode b_M_least 12 = .ok (.iconst 1, 1) := by decide +kernel
theorem d_M_least_13 : decode b_M_least 13 = .ok (.if_icmp .lt 9, 3) := by decide +kernel
theorem d_M_least_16 : decode b_M_least 16 = .ok (.iload_n 2, 1) := by decide +kernel
theorem d_M_least_17 : decode b_M_least 17 = .ok (.bipush 63, 2) := by decide +kernel
theorem d_M_least_19 : decode b_M_least 19 = .ok (.if_icmp .le 5, 3) := by decide +kernel
theorem d_M_least_22 : decode b_M_least 22 = .ok (.iconst 0, 1) := by decide +kernel
theorem d_M_least_23 : decode b_M_least 23 = .ok (.ireturn, 1) := by decide +kernel
theorem d_M_least_24 : decode b_M_least 24 = .ok (.aload_n 0, 1) := by decide +kernel
theorem d_M_least_25 : decode b_M_least 25 = .ok (.iload_n 1, 1) := by decide +kernel
theorem d_M_least_26 : decode b_M_least 26 = .ok (.putfield 13, 3) := by decide +kernel
theorem d_M_least_29 : decode b_M_least 29 = .ok (.aload_n 0, 1) := by decide +kernel
theorem d_M_least_30 : decode b_M_least 30 = .ok (.iload_n 2, 1) := by decide +kernel
theorem d_M_least_31 : decode b_M_least 31 = .ok (.putfield 17, 3) := by decide +kernel
theorem d_M_least_34 : decode b_M_least 34 = .ok (.iconst 1, 1) := by decide +kernel
theorem d_M_least_35 : decode b_M_least 35 = .ok (.ireturn, 1) := by decide +kernel
theorem d_M_look_0 : decode b_M_look 0 = .ok (.aload_n 0, 1) := by decide +kernel
theorem d_M_look_1 : decode b_M_look 1 = .ok (.getfield 90, 3) := by decide +kernel
theorem d_M_look_4 : decode b_M_look 4 = .ok (.aload_n 0, 1) := by decide +kernel
theorem d_M_look_5 : decode b_M_look 5 = .ok (.getfield 81, 3) := by decide +kernel
theorem d_M_look_8 : decode b_M_look 8 = .ok (.if_icmp .ge 15, 3) := by decide +kernel
theorem d_M_look_11 : decode b_M_look 11 = .ok (.aload_n 0, 1) := by decide +kernel
theorem d_M_look_12 : decode b_M_look 12 = .ok (.getfield 20, 3) := by decide +kernel
theorem d_M_look_15 : decode b_M_look 15 = .ok (.aload_n 0, 1) := by decide +kernel
theorem d_M_look_16 : decode b_M_look 16 = .ok (.getfield 90, 3) := by decide +kernel
theorem d_M_look_19 : decode b_M_look 19 = .ok (.iaload, 1) := by decide +kernel
theorem d_M_look_20 : decode b_M_look 20 = .ok (.goto 4, 3) := by decide +kernel
theorem d_M_look_23 : decode b_M_look 23 = .ok (.iconst 0, 1) := by decide +kernel
theorem d_M_look_24 : decode b_M_look 24 = .ok (.ireturn, 1) := by decide +kernel
theorem d_M_isLetter_0 : decode b_M_isLetter 0 = .ok (.aload_n 0, 1) := by decide +kernel
theorem d_M_isLetter_1 : decode b_M_isLetter 1 = .ok (.getfield 90, 3) := by decide +kernel
theorem d_M_isLetter_4 : decode b_M_isLetter 4 = .ok (.aload_n 0, 1) := by decide +kernel
theorem d_M_isLetter_5 : decode b_M_isLetter 5 = .ok (.getfield 81, 3) := by decide +kernel
theorem d_M_isLetter_8 : decode b_M_isLetter 8 = .ok (.if_icmp .ge 24, 3) := by decide +kernel
theorem d_M_isLetter_11 : decode b_M_isLetter 11 = .ok (.aload_n 0, 1) := by decide +kernel
theorem d_M_isLetter_12 : decode b_M_isLetter 12 = .ok (.getfield 7, 3) := by decide +kernel
theorem d_M_isLetter_15 : decode b_M_isLetter 15 = .ok (.aload_n 0, 1) := by decide +kernel
theorem d_M_isLetter_16 : decode b_M_isLetter 16 = .ok (.getfield 20, 3) := by decide +kernel
theorem d_M_isLetter_19 : decode b_M_isLetter 19 = .ok (.aload_n 0, 1) := by decide +kernel
theorem d_M_isLetter_20 : decode b_M_isLetter 20 = .ok (.getfield 90, 3) := by decide +kernel
theorem d_M_isLetter_23 : decode b_M_isLetter 23 = .ok (.iaload, 1) := by decide +kernel
theorem d_M_isLetter_24 : decode b_M_isLetter 24 = .ok (.iaload, 1) := by decide +kernel
theorem d_M_isLetter_25 : decode b_M_isLetter 25 = .ok (.ifCond .le 7, 3) := by decide +kernel
theorem d_M_isLetter_28 : decode b_M_isLetter 28 = .ok (.iconst 1, 1) := by decide +kernel
theorem d_M_isLetter_29 : decode b_M_isLetter 29 = .ok (.goto 4, 3) := by decide +kernel
theorem d_M_isLetter_32 : decode b_M_isLetter 32 = .ok (.iconst 0, 1) := by decide +kernel
theorem d_M_isLetter_33 : decode b_M_isLetter 33 = .ok (.ireturn, 1) := by decide +kernel
theorem d_M_isOver_0 : decode b_M_isOver 0 = .ok (.aload_n 0, 1) := by decide +kernel
theorem d_M_isOver_1 : decode b_M_isOver 1 = .ok (.getfield 90, 3) := by decide +kernel
theorem d_M_isOver_4 : decode b_M_isOver 4 = .ok (.aload_n 0, 1) := by decide +kernel
theorem d_M_isOver_5 : decode b_M_isOver 5 = .ok (.getfield 81, 3) := by decide +kernel
theorem d_M_isOver_8 : decode b_M_isOver 8 = .ok (.if_icmp .eq 17, 3) := by decide +kernel
theorem d_M_isOver_11 : decode b_M_isOver 11 = .ok (.aload_n 0, 1) := by decide +kernel
theorem d_M_isOver_12 : decode b_M_isOver 12 = .ok (.getfield 20, 3) := by decide +kernel
theorem d_M_isOver_15 : decode b_M_isOver 15 = .ok (.aload_n 0, 1) := by decide +kernel
theorem d_M_isOver_16 : decode b_M_isOver 16 = .ok (.getfield 90, 3) := by decide +kernel
theorem d_M_isOver_19 : decode b_M_isOver 19 = .ok (.iaload, 1) := by decide +kernel
theorem d_M_isOver_20 : decode b_M_isOver 20 = .ok (.bipush 32, 2) := by decide +kernel
theorem d_M_isOver_22 : decode b_M_isOver 22 = .ok (.if_icmp .ne 7, 3) := by decide +kernel
theorem d_M_isOver_25 : decode b_M_isOver 25 = .ok (.iconst 1, 1) := by decide +kernel
theorem d_M_isOver_26 : decode b_M_isOver 26 = .ok (.goto 4, 3) := by decide +kernel
theorem d_M_isOver_29 : decode b_M_isOver 29 = .ok (.iconst 0, 1) := by decide +kernel
theorem d_M_isOver_30 : decode b_M_isOver 30 = .ok (.ireturn, 1) := by decide +kernel
theorem d_M_spaces_0 : decode b_M_spaces 0 = .ok (.aload_n 0, 1) := by decide +kernel
theorem d_M_spaces_1 : decode b_M_spaces 1 = .ok (.getfield 90, 3) := by decide +kernel
theorem d_M_spaces_4 : decode b_M_spaces 4 = .ok (.aload_n 0, 1) := by decide +kernel
theorem d_M_spaces_5 : decode b_M_spaces 5 = .ok (.getfield 81, 3) := by decide +kernel
theorem d_M_spaces_8 : decode b_M_spaces 8 = .ok (.if_icmp .ge 30, 3) := by decide +kernel
theorem d_M_spaces_11 : decode b_M_spaces 11 = .ok (.aload_n 0, 1) := by decide +kernel
theorem d_M_spaces_12 : decode b_M_spaces 12 = .ok (.getfield 20, 3) := by decide +kernel
theorem d_M_spaces_15 : decode b_M_spaces 15 = .ok (.aload_n 0, 1) := by decide +kernel
theorem d_M_spaces_16 : decode b_M_spaces 16 = .ok (.getfield 90, 3) := by decide +kernel
theorem d_M_spaces_19 : decode b_M_spaces 19 = .ok (.iaload, 1) := by decide +kernel
theorem d_M_spaces_20 : decode b_M_spaces 20 = .ok (.bipush 32, 2) := by decide +kernel
theorem d_M_spaces_22 : decode b_M_spaces 22 = .ok (.if_icmp .ne 16, 3) := by decide +kernel
theorem d_M_spaces_25 : decode b_M_spaces 25 = .ok (.aload_n 0, 1) := by decide +kernel
theorem d_M_spaces_26 : decode b_M_spaces 26 = .ok (.dup, 1) := by decide +kernel
theorem d_M_spaces_27 : decode b_M_spaces 27 = .ok (.getfield 90, 3) := by decide +kernel
theorem d_M_spaces_30 : decode b_M_spaces 30 = .ok (.iconst 1, 1) := by decide +kernel
theorem d_M_spaces_31 : decode b_M_spaces 31 = .ok (.iadd, 1) := by decide +kernel
theorem d_M_spaces_32 : decode b_M_spaces 32 = .ok (.putfield 90, 3) := by decide +kernel
theorem d_M_spaces_35 : decode b_M_spaces 35 = .ok (.goto (-35), 3) := by decide +kernel
theorem d_M_spaces_38 : decode b_M_spaces 38 = .ok (.return_, 1) := by decide +kernel
theorem d_M_clear_0 : decode b_M_clear 0 = .ok (.iload_n 1, 1) := by decide +kernel
theorem d_M_clear_1 : decode b_M_clear 1 = .ok (.ifCond .eq 10, 3) := by decide +kernel
theorem d_M_clear_4 : decode b_M_clear 4 = .ok (.aload_n 0, 1) := by decide +kernel
theorem d_M_clear_5 : decode b_M_clear 5 = .ok (.getfield 136, 3) := by decide +kernel
theorem d_M_clear_8 : decode b_M_clear 8 = .ok (.goto 7, 3) := by decide +kernel
theorem d_M_clear_11 : decode b_M_clear 11 = .ok (.aload_n 0, 1) := by decide +kernel
theorem d_M_clear_12 : decode b_M_clear 12 = .ok (.getfield 114, 3) := by decide +kernel
theorem d_M_clear_15 : decode b_M_clear 15 = .ok (.istore_n 2, 1) := by decide +kernel
theorem d_M_clear_16 : decode b_M_clear 16 = .ok (.aload_n 0, 1) := by decide +kernel
theorem d_M_clear_17 : decode b_M_clear 17 = .ok (.iload_n 1, 1) := by decide +kernel
theorem d_M_clear_18 : decode b_M_clear 18 = .ok (.ifCond .eq 7, 3) := by decide +kernel
theorem d_M_clear_21 : decode b_M_clear 21 = .ok (.iconst 0, 1) := by decide +kernel
theorem d_M_clear_22 : decode b_M_clear 22 = .ok (.goto 7, 3) := by decide +kernel
theorem d_M_clear_25 : decode b_M_clear 25 = .ok (.aload_n 0, 1) := by decide +kernel
theorem d_M_clear_26 : decode b_M_clear 26 = .ok (.getfield 136, 3) := by decide +kernel
theorem d_M_clear_29 : decode b_M_clear 29 = .ok (.putfield 136, 3) := by decide +kernel
theorem d_M_clear_32 : decode b_M_clear 32 = .ok (.aload_n 0, 1) := by decide +kernel
theorem d_M_clear_33 : decode b_M_clear 33 = .ok (.iload_n 1, 1) := by decide +kernel
theorem d_M_clear_34 : decode b_M_clear 34 = .ok (.ifCond .eq 10, 3) := by decide +kernel
theorem d_M_clear_37 : decode b_M_clear 37 = .ok (.aload_n 0, 1) := by decide +kernel
theorem d_M_clear_38 : decode b_M_clear 38 = .ok (.getfield 114, 3) := by decide +kernel
theorem d_M_clear_41 : decode b_M_clear 41 = .ok (.goto 4, 3) := by decide +kernel
theorem d_M_clear_44 : decode b_M_clear 44 = .ok (.iconst 0, 1) := by decide +kernel
theorem d_M_clear_45 : decode b_M_clear 45 = .ok (.putfield 114, 3) := by decide +kernel
theorem d_M_clear_48 : decode b_M_clear 48 = .ok (.iload_n 2, 1) := by decide +kernel
theorem d_M_clear_49 : decode b_M_clear 49 = .ok (.ireturn, 1) := by decide +kernel
theorem d_M_count_0 : decode b_M_count 0 = .ok (.iload_n 1, 1) := by decide +kernel
theorem d_M_count_1 : decode b_M_count 1 = .ok (.ifCond .eq 10, 3) := by decide +kernel
theorem d_M_count_4 : decode b_M_count 4 = .ok (.aload_n 0, 1) := by decide +kernel
theorem d_M_count_5 : decode b_M_count 5 = .ok (.getfield 136, 3) := by decide +kernel
theorem d_M_count_8 : decode b_M_count 8 = .ok (.goto 7, 3) := by decide +kernel
theorem d_M_count_11 : decode b_M_count 11 = .ok (.aload_n 0, 1) := by decide +kernel
theorem d_M_count_12 : decode b_M_count 12 = .ok (.getfield 114, 3) := by decide +kernel
theorem d_M_count_15 : decode b_M_count 15 = .ok (.ireturn, 1) := by decide +kernel
theorem d_M_place_0 : decode b_M_place 0 = .ok (.iload_n 1, 1) := by decide +kernel
theorem d_M_place_1 : decode b_M_place 1 = .ok (.ifCond .lt 11, 3) := by decide +kernel
theorem d_M_place_4 : decode b_M_place 4 = .ok (.iload_n 1, 1) := by decide +kernel
theorem d_M_place_5 : decode b_M_place 5 = .ok (.aload_n 0, 1) := by decide +kernel
theorem d_M_place_6 : decode b_M_place 6 = .ok (.getfield 157, 3) := by decide +kernel
theorem d_M_place_9 : decode b_M_place 9 = .ok (.if_icmp .lt 7, 3) := by decide +kernel
theorem d_M_place_12 : decode b_M_place 12 = .ok (.iconst (-1), 1) := by decide +kernel
theorem d_M_place_13 : decode b_M_place 13 = .ok (.goto 9, 3) := by decide +kernel
theorem d_M_place_16 : decode b_M_place 16 = .ok (.aload_n 0, 1) := by decide +kernel
theorem d_M_place_17 : decode b_M_place 17 = .ok (.getfield 66, 3) := by decide +kernel
theorem d_M_place_20 : decode b_M_place 20 = .ok (.iload_n 1, 1) := by decide +kernel
theorem d_M_place_21 : decode b_M_place 21 = .ok (.iaload, 1) := by decide +kernel
theorem d_M_place_22 : decode b_M_place 22 = .ok (.ireturn, 1) := by decide +kernel
theorem d_M_value_0 : decode b_M_value 0 = .ok (.iload_n 1, 1) := by decide +kernel
theorem d_M_value_1 : decode b_M_value 1 = .ok (.iconst 1, 1) := by decide +kernel
theorem d_M_value_2 : decode b_M_value 2 = .ok (.if_icmp .lt 11, 3) := by decide +kernel
theorem d_M_value_5 : decode b_M_value 5 = .ok (.iload_n 1, 1) := by decide +kernel
theorem d_M_value_6 : decode b_M_value 6 = .ok (.aload_n 0, 1) := by decide +kernel
theorem d_M_value_7 : decode b_M_value 7 = .ok (.getfield 150, 3) := by decide +kernel
theorem d_M_value_10 : decode b_M_value 10 = .ok (.if_icmp .lt 7, 3) := by decide +kernel
theorem d_M_value_13 : decode b_M_value 13 = .ok (.iconst (-1), 1) := by decide +kernel
theorem d_M_value_14 : decode b_M_value 14 = .ok (.goto 9, 3) := by decide +kernel
theorem d_M_value_17 : decode b_M_value 17 = .ok (.aload_n 0, 1) := by decide +kernel
theorem d_M_value_18 : decode b_M_value 18 = .ok (.getfield 63, 3) := by decide +kernel
theorem d_M_value_21 : decode b_M_value 21 = .ok (.iload_n 1, 1) := by decide +kernel
theorem d_M_value_22 : decode b_M_value 22 = .ok (.iaload, 1) := by decide +kernel
theorem d_M_value_23 : decode b_M_value 23 = .ok (.ireturn, 1) := by decide +kernel
theorem d_M_put_0 : decode b_M_put 0 = .ok (.aload_n 0, 1) := by decide +kernel
theorem d_M_put_1 : decode b_M_put 1 = .ok (.getfield 69, 3) := by decide +kernel
theorem d_M_put_4 : decode b_M_put 4 = .ok (.aload_n 0, 1) := by decide +kernel
theorem d_M_put_5 : decode b_M_put 5 = .ok (.getfield 163, 3) := by decide +kernel
theorem d_M_put_8 : decode b_M_put 8 = .ok (.iload_n 1, 1) := by decide +kernel
theorem d_M_put_9 : decode b_M_put 9 = .ok (.iastore, 1) := by decide +kernel
theorem d_M_put_10 : decode b_M_put 10 = .ok (.aload_n 0, 1) := by decide +kernel
theorem d_M_put_11 : decode b_M_put 11 = .ok (.dup, 1) := by decide +kernel
theorem d_M_put_12 : decode b_M_put 12 = .ok (.getfield 163, 3) := by decide +kernel
theorem d_M_put_15 : decode b_M_put 15 = .ok (.iconst 1, 1) := by decide +kernel
theorem d_M_put_16 : decode b_M_put 16 = .ok (.iadd, 1) := by decide +kernel
theorem d_M_put_17 : decode b_M_put 17 = .ok (.putfield 163, 3) := by decide +kernel
theorem d_M_put_20 : decode b_M_put 20 = .ok (.return_, 1) := by decide +kernel
theorem d_M_size_0 : decode b_M_size 0 = .ok (.aload_n 0, 1) := by decide +kernel
theorem d_M_size_1 : decode b_M_size 1 = .ok (.getfield 163, 3) := by decide +kernel
theorem d_M_size_4 : decode b_M_size 4 = .ok (.ireturn, 1) := by decide +kernel
theorem d_M_out_0 : decode b_M_out 0 = .ok (.iload_n 1, 1) := by decide +kernel
theorem d_M_out_1 : decode b_M_out 1 = .ok (.ifCond .lt 11, 3) := by decide +kernel
theorem d_M_out_4 : decode b_M_out 4 = .ok (.iload_n 1, 1) := by decide +kernel
theorem d_M_out_5 : decode b_M_out 5 = .ok (.aload_n 0, 1) := by decide +kernel
theorem d_M_out_6 : decode b_M_out 6 = .ok (.getfield 163, 3) := by decide +kernel
theorem d_M_out_9 : decode b_M_out 9 = .ok (.if_icmp .lt 7, 3) := by decide +kernel
theorem d_M_out_12 : decode b_M_out 12 = .ok (.iconst (-1), 1) := by decide +kernel
theorem d_M_out_13 : decode b_M_out 13 = .ok (.goto 9, 3) := by decide +kernel
theorem d_M_out_16 : decode b_M_out 16 = .ok (.aload_n 0, 1) := by decide +kernel
theorem d_M_out_17 : decode b_M_out 17 = .ok (.getfield 69, 3) := by decide +kernel
theorem d_M_out_20 : decode b_M_out 20 = .ok (.iload_n 1, 1) := by decide +kernel
theorem d_M_out_21 : decode b_M_out 21 = .ok (.iaload, 1) := by decide +kernel
theorem d_M_out_22 : decode b_M_out 22 = .ok (.ireturn, 1) := by decide +kernel
