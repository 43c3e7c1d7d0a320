theorem d_breakWord_0 : decode b_breakWord 0 = .ok (.aload_n 1, 1) := by decide +kernel
theorem d_breakWord_1 : decode b_breakWord 1 = .ok (.invokevirtual 185, 3) := by decide +kernel
theorem d_breakWord_4 : decode b_breakWord 4 = .ok (.iconst 0, 1) := by decide +kernel
theorem d_breakWord_5 : decode b_breakWord 5 = .ok (.istore 4, 2) := by decide +kernel
theorem d_breakWord_7 : decode b_breakWord 7 = .ok (.iload 4, 2) := by decide +kernel
theorem d_breakWord_9 : decode b_breakWord 9 = .ok (.iload_n 3, 1) := by decide +kernel
theorem d_breakWord_10 : decode b_breakWord 10 = .ok (.if_icmp .ge 21, 3) := by decide +kernel
theorem d_breakWord_13 : decode b_breakWord 13 = .ok (.aload_n 1, 1) := by decide +kernel
theorem d_breakWord_14 : decode b_breakWord 14 = .ok (.aload_n 0, 1) := by decide +kernel
theorem d_breakWord_15 : decode b_breakWord 15 = .ok (.iload_n 2, 1) := by decide +kernel
theorem d_breakWord_16 : decode b_breakWord 16 = .ok (.iload 4, 2) := by decide +kernel
theorem d_breakWord_18 : decode b_breakWord 18 = .ok (.iadd, 1) := by decide +kernel
theorem d_breakWord_19 : decode b_breakWord 19 = .ok (.invokevirtual 114, 3) := by decide +kernel
theorem d_breakWord_22 : decode b_breakWord 22 = .ok (.invokevirtual 186, 3) := by decide +kernel
theorem d_breakWord_25 : decode b_breakWord 25 = .ok (.iinc 4 1, 3) := by decide +kernel
theorem d_breakWord_28 : decode b_breakWord 28 = .ok (.goto (-21), 3) := by decide +kernel
theorem d_breakWord_31 : decode b_breakWord 31 = .ok (.aload_n 0, 1) := by decide +kernel
theorem d_breakWord_32 : decode b_breakWord 32 = .ok (.getfield 35, 3) := by decide +kernel
theorem d_breakWord_35 : decode b_breakWord 35 = .ok (.aload_n 1, 1) := by decide +kernel
theorem d_breakWord_36 : decode b_breakWord 36 = .ok (.getfield 189, 3) := by decide +kernel
theorem d_breakWord_39 : decode b_breakWord 39 = .ok (.iconst 0, 1) := by decide +kernel
theorem d_breakWord_40 : decode b_breakWord 40 = .ok (.invokevirtual 150, 3) := by decide +kernel
theorem d_breakWord_43 : decode b_breakWord 43 = .ok (.istore 4, 2) := by decide +kernel
theorem d_breakWord_45 : decode b_breakWord 45 = .ok (.iload 4, 2) := by decide +kernel
theorem d_breakWord_47 : decode b_breakWord 47 = .ok (.iconst (-1), 1) := by decide +kernel
theorem d_breakWord_48 : decode b_breakWord 48 = .ok (.if_icmp .ne 21, 3) := by decide +kernel
theorem d_breakWord_51 : decode b_breakWord 51 = .ok (.aload_n 0, 1) := by decide +kernel
theorem d_breakWord_52 : decode b_breakWord 52 = .ok (.getfield 31, 3) := by decide +kernel
theorem d_breakWord_55 : decode b_breakWord 55 = .ok (.aload_n 1, 1) := by decide +kernel
theorem d_breakWord_56 : decode b_breakWord 56 = .ok (.getfield 189, 3) := by decide +kernel
theorem d_breakWord_59 : decode b_breakWord 59 = .ok (.aload_n 1, 1) := by decide +kernel
theorem d_breakWord_60 : decode b_breakWord 60 = .ok (.getfield 111, 3) := by decide +kernel
theorem d_breakWord_63 : decode b_breakWord 63 = .ok (.invokevirtual 190, 3) := by decide +kernel
theorem d_breakWord_66 : decode b_breakWord 66 = .ok (.goto 17, 3) := by decide +kernel
theorem d_breakWord_69 : decode b_breakWord 69 = .ok (.aload_n 0, 1) := by decide +kernel
theorem d_breakWord_70 : decode b_breakWord 70 = .ok (.getfield 35, 3) := by decide +kernel
theorem d_breakWord_73 : decode b_breakWord 73 = .ok (.iload 4, 2) := by decide +kernel
theorem d_breakWord_75 : decode b_breakWord 75 = .ok (.iconst 0, 1) := by decide +kernel
theorem d_breakWord_76 : decode b_breakWord 76 = .ok (.aload_n 1, 1) := by decide +kernel
theorem d_breakWord_77 : decode b_breakWord 77 = .ok (.getfield 111, 3) := by decide +kernel
theorem d_breakWord_80 : decode b_breakWord 80 = .ok (.invokevirtual 194, 3) := by decide +kernel
theorem d_breakWord_83 : decode b_breakWord 83 = .ok (.aload_n 1, 1) := by decide +kernel
theorem d_breakWord_84 : decode b_breakWord 84 = .ok (.aload_n 0, 1) := by decide +kernel
theorem d_breakWord_85 : decode b_breakWord 85 = .ok (.getfield 55, 3) := by decide +kernel
theorem d_breakWord_88 : decode b_breakWord 88 = .ok (.aload_n 0, 1) := by decide +kernel
theorem d_breakWord_89 : decode b_breakWord 89 = .ok (.getfield 59, 3) := by decide +kernel
theorem d_breakWord_92 : decode b_breakWord 92 = .ok (.invokevirtual 198, 3) := by decide +kernel
theorem d_breakWord_95 : decode b_breakWord 95 = .ok (.return_, 1) := by decide +kernel
theorem d_keepWord_0 : decode b_keepWord 0 = .ok (.aload_n 0, 1) := by decide +kernel
theorem d_keepWord_1 : decode b_keepWord 1 = .ok (.invokevirtual 178, 3) := by decide +kernel
theorem d_keepWord_4 : decode b_keepWord 4 = .ok (.istore_n 1, 1) := by decide +kernel
theorem d_keepWord_5 : decode b_keepWord 5 = .ok (.iload_n 1, 1) := by decide +kernel
theorem d_keepWord_6 : decode b_keepWord 6 = .ok (.iconst (-1), 1) := by decide +kernel
theorem d_keepWord_7 : decode b_keepWord 7 = .ok (.if_icmp .eq 9, 3) := by decide +kernel
theorem d_keepWord_10 : decode b_keepWord 10 = .ok (.iconst 1, 1) := by decide +kernel
theorem d_keepWord_11 : decode b_keepWord 11 = .ok (.iload_n 1, 1) := by decide +kernel
theorem d_keepWord_12 : decode b_keepWord 12 = .ok (.invokestatic 137, 3) := by decide +kernel
theorem d_keepWord_15 : decode b_keepWord 15 = .ok (.ireturn, 1) := by decide +kernel
theorem d_keepWord_16 : decode b_keepWord 16 = .ok (.aload_n 0, 1) := by decide +kernel
theorem d_keepWord_17 : decode b_keepWord 17 = .ok (.getfield 22, 3) := by decide +kernel
theorem d_keepWord_20 : decode b_keepWord 20 = .ok (.getfield 62, 3) := by decide +kernel
theorem d_keepWord_23 : decode b_keepWord 23 = .ok (.bipush 63, 2) := by decide +kernel
theorem d_keepWord_25 : decode b_keepWord 25 = .ok (.if_icmp .le 9, 3) := by decide +kernel
theorem d_keepWord_28 : decode b_keepWord 28 = .ok (.iconst 2, 1) := by decide +kernel
theorem d_keepWord_29 : decode b_keepWord 29 = .ok (.iconst 0, 1) := by decide +kernel
theorem d_keepWord_30 : decode b_keepWord 30 = .ok (.invokestatic 137, 3) := by decide +kernel
theorem d_keepWord_33 : decode b_keepWord 33 = .ok (.ireturn, 1) := by decide +kernel
theorem d_keepWord_34 : decode b_keepWord 34 = .ok (.aload_n 0, 1) := by decide +kernel
theorem d_keepWord_35 : decode b_keepWord 35 = .ok (.aload_n 0, 1) := by decide +kernel
theorem d_keepWord_36 : decode b_keepWord 36 = .ok (.getfield 48, 3) := by decide +kernel
theorem d_keepWord_39 : decode b_keepWord 39 = .ok (.iconst 0, 1) := by decide +kernel
theorem d_keepWord_40 : decode b_keepWord 40 = .ok (.aload_n 0, 1) := by decide +kernel
theorem d_keepWord_41 : decode b_keepWord 41 = .ok (.getfield 22, 3) := by decide +kernel
theorem d_keepWord_44 : decode b_keepWord 44 = .ok (.getfield 62, 3) := by decide +kernel
theorem d_keepWord_47 : decode b_keepWord 47 = .ok (.invokevirtual 181, 3) := by decide +kernel
theorem d_keepWord_50 : decode b_keepWord 50 = .ok (.aload_n 0, 1) := by decide +kernel
theorem d_keepWord_51 : decode b_keepWord 51 = .ok (.getfield 48, 3) := by decide +kernel
theorem d_keepWord_54 : decode b_keepWord 54 = .ok (.getfield 104, 3) := by decide +kernel
theorem d_keepWord_57 : decode b_keepWord 57 = .ok (.getfield 62, 3) := by decide +kernel
theorem d_keepWord_60 : decode b_keepWord 60 = .ok (.ireturn, 1) := by decide +kernel
theorem d_showWord_0 : decode b_showWord 0 = .ok (.aload_n 0, 1) := by decide +kernel
theorem d_showWord_1 : decode b_showWord 1 = .ok (.iload_n 1, 1) := by decide +kernel
theorem d_showWord_2 : decode b_showWord 2 = .ok (.invokevirtual 201, 3) := by decide +kernel
theorem d_showWord_5 : decode b_showWord 5 = .ok (.istore_n 2, 1) := by decide +kernel
theorem d_showWord_6 : decode b_showWord 6 = .ok (.aload_n 0, 1) := by decide +kernel
theorem d_showWord_7 : decode b_showWord 7 = .ok (.getfield 52, 3) := by decide +kernel
theorem d_showWord_10 : decode b_showWord 10 = .ok (.invokevirtual 185, 3) := by decide +kernel
theorem d_showWord_13 : decode b_showWord 13 = .ok (.iload_n 2, 1) := by decide +kernel
theorem d_showWord_14 : decode b_showWord 14 = .ok (.bipush 63, 2) := by decide +kernel
theorem d_showWord_16 : decode b_showWord 16 = .ok (.if_icmp .gt 13, 3) := by decide +kernel
theorem d_showWord_19 : decode b_showWord 19 = .ok (.aload_n 0, 1) := by decide +kernel
theorem d_showWord_20 : decode b_showWord 20 = .ok (.aload_n 0, 1) := by decide +kernel
theorem d_showWord_21 : decode b_showWord 21 = .ok (.getfield 52, 3) := by decide +kernel
theorem d_showWord_24 : decode b_showWord 24 = .ok (.iload_n 1, 1) := by decide +kernel
theorem d_showWord_25 : decode b_showWord 25 = .ok (.iload_n 2, 1) := by decide +kernel
theorem d_showWord_26 : decode b_showWord 26 = .ok (.invokevirtual 181, 3) := by decide +kernel
theorem d_showWord_29 : decode b_showWord 29 = .ok (.iconst 0, 1) := by decide +kernel
theorem d_showWord_30 : decode b_showWord 30 = .ok (.istore_n 3, 1) := by decide +kernel
theorem d_showWord_31 : decode b_showWord 31 = .ok (.iconst 1, 1) := by decide +kernel
theorem d_showWord_32 : decode b_showWord 32 = .ok (.istore 4, 2) := by decide +kernel
theorem d_showWord_34 : decode b_showWord 34 = .ok (.iload 4, 2) := by decide +kernel
theorem d_showWord_36 : decode b_showWord 36 = .ok (.iload_n 2, 1) := by decide +kernel
theorem d_showWord_37 : decode b_showWord 37 = .ok (.if_icmp .gt 57, 3) := by decide +kernel
theorem d_showWord_40 : decode b_showWord 40 = .ok (.aload_n 0, 1) := by decide +kernel
theorem d_showWord_41 : decode b_showWord 41 = .ok (.getfield 25, 3) := by decide +kernel
theorem d_showWord_44 : decode b_showWord 44 = .ok (.aload_n 0, 1) := by decide +kernel
theorem d_showWord_45 : decode b_showWord 45 = .ok (.getfield 22, 3) := by decide +kernel
theorem d_showWord_48 : decode b_showWord 48 = .ok (.iload_n 1, 1) := by decide +kernel
theorem d_showWord_49 : decode b_showWord 49 = .ok (.iload 4, 2) := by decide +kernel
theorem d_showWord_51 : decode b_showWord 51 = .ok (.iadd, 1) := by decide +kernel
theorem d_showWord_52 : decode b_showWord 52 = .ok (.iconst 1, 1) := by decide +kernel
theorem d_showWord_53 : decode b_showWord 53 = .ok (.isub, 1) := by decide +kernel
theorem d_showWord_54 : decode b_showWord 54 = .ok (.invokevirtual 107, 3) := by decide +kernel
theorem d_showWord_57 : decode b_showWord 57 = .ok (.invokevirtual 73, 3) := by decide +kernel
theorem d_showWord_60 : decode b_showWord 60 = .ok (.aload_n 0, 1) := by decide +kernel
theorem d_showWord_61 : decode b_showWord 61 = .ok (.getfield 52, 3) := by decide +kernel
theorem d_showWord_64 : decode b_showWord 64 = .ok (.getfield 104, 3) := by decide +kernel
theorem d_showWord_67 : decode b_showWord 67 = .ok (.iload_n 3, 1) := by decide +kernel
theorem d_showWord_68 : decode b_showWord 68 = .ok (.invokevirtual 107, 3) := by decide +kernel
theorem d_showWord_71 : decode b_showWord 71 = .ok (.iload 4, 2) := by decide +kernel
theorem d_showWord_73 : decode b_showWord 73 = .ok (.if_icmp .ne 15, 3) := by decide +kernel
theorem d_showWord_76 : decode b_showWord 76 = .ok (.aload_n 0, 1) := by decide +kernel
theorem d_showWord_77 : decode b_showWord 77 = .ok (.getfield 25, 3) := by decide +kernel
theorem d_showWord_80 : decode b_showWord 80 = .ok (.bipush 45, 2) := by decide +kernel
theorem d_showWord_82 : decode b_showWord 82 = .ok (.invokevirtual 73, 3) := by decide +kernel
theorem d_showWord_85 : decode b_showWord 85 = .ok (.iinc 3 1, 3) := by decide +kernel
theorem d_showWord_88 : decode b_showWord 88 = .ok (.iinc 4 1, 3) := by decide +kernel
theorem d_showWord_91 : decode b_showWord 91 = .ok (.goto (-57), 3) := by decide +kernel
theorem d_showWord_94 : decode b_showWord 94 = .ok (.iload_n 3, 1) := by decide +kernel
theorem d_showWord_95 : decode b_showWord 95 = .ok (.ireturn, 1) := by decide +kernel
