theorem d_letterAt_0 : decode b_letterAt 0 = .ok (.aload_n 0, 1) := by decide +kernel
theorem d_letterAt_1 : decode b_letterAt 1 = .ok (.getfield 13, 3) := by decide +kernel
theorem d_letterAt_4 : decode b_letterAt 4 = .ok (.aload_n 0, 1) := by decide +kernel
theorem d_letterAt_5 : decode b_letterAt 5 = .ok (.getfield 22, 3) := by decide +kernel
theorem d_letterAt_8 : decode b_letterAt 8 = .ok (.iload_n 1, 1) := by decide +kernel
theorem d_letterAt_9 : decode b_letterAt 9 = .ok (.invokevirtual 107, 3) := by decide +kernel
theorem d_letterAt_12 : decode b_letterAt 12 = .ok (.invokevirtual 107, 3) := by decide +kernel
theorem d_letterAt_15 : decode b_letterAt 15 = .ok (.ireturn, 1) := by decide +kernel
theorem d_startsEntry_0 : decode b_startsEntry 0 = .ok (.aload_n 0, 1) := by decide +kernel
theorem d_startsEntry_1 : decode b_startsEntry 1 = .ok (.getfield 22, 3) := by decide +kernel
theorem d_startsEntry_4 : decode b_startsEntry 4 = .ok (.iload_n 1, 1) := by decide +kernel
theorem d_startsEntry_5 : decode b_startsEntry 5 = .ok (.invokevirtual 107, 3) := by decide +kernel
theorem d_startsEntry_8 : decode b_startsEntry 8 = .ok (.bipush 32, 2) := by decide +kernel
theorem d_startsEntry_10 : decode b_startsEntry 10 = .ok (.if_icmp .eq 26, 3) := by decide +kernel
theorem d_startsEntry_13 : decode b_startsEntry 13 = .ok (.iload_n 1, 1) := by decide +kernel
theorem d_startsEntry_14 : decode b_startsEntry 14 = .ok (.ifCond .eq 18, 3) := by decide +kernel
theorem d_startsEntry_17 : decode b_startsEntry 17 = .ok (.aload_n 0, 1) := by decide +kernel
theorem d_startsEntry_18 : decode b_startsEntry 18 = .ok (.getfield 22, 3) := by decide +kernel
theorem d_startsEntry_21 : decode b_startsEntry 21 = .ok (.iload_n 1, 1) := by decide +kernel
theorem d_startsEntry_22 : decode b_startsEntry 22 = .ok (.iconst 1, 1) := by decide +kernel
theorem d_startsEntry_23 : decode b_startsEntry 23 = .ok (.isub, 1) := by decide +kernel
theorem d_startsEntry_24 : decode b_startsEntry 24 = .ok (.invokevirtual 107, 3) := by decide +kernel
theorem d_startsEntry_27 : decode b_startsEntry 27 = .ok (.bipush 32, 2) := by decide +kernel
theorem d_startsEntry_29 : decode b_startsEntry 29 = .ok (.if_icmp .ne 7, 3) := by decide +kernel
theorem d_startsEntry_32 : decode b_startsEntry 32 = .ok (.iconst 1, 1) := by decide +kernel
theorem d_startsEntry_33 : decode b_startsEntry 33 = .ok (.goto 4, 3) := by decide +kernel
theorem d_startsEntry_36 : decode b_startsEntry 36 = .ok (.iconst 0, 1) := by decide +kernel
theorem d_startsEntry_37 : decode b_startsEntry 37 = .ok (.ireturn, 1) := by decide +kernel
theorem d_readEntry_0 : decode b_readEntry 0 = .ok (.aload_n 0, 1) := by decide +kernel
theorem d_readEntry_1 : decode b_readEntry 1 = .ok (.getfield 41, 3) := by decide +kernel
theorem d_readEntry_4 : decode b_readEntry 4 = .ok (.invokevirtual 157, 3) := by decide +kernel
theorem d_readEntry_7 : decode b_readEntry 7 = .ok (.aload_n 0, 1) := by decide +kernel
theorem d_readEntry_8 : decode b_readEntry 8 = .ok (.getfield 22, 3) := by decide +kernel
theorem d_readEntry_11 : decode b_readEntry 11 = .ok (.getfield 62, 3) := by decide +kernel
theorem d_readEntry_14 : decode b_readEntry 14 = .ok (.istore_n 3, 1) := by decide +kernel
theorem d_readEntry_15 : decode b_readEntry 15 = .ok (.iload_n 2, 1) := by decide +kernel
theorem d_readEntry_16 : decode b_readEntry 16 = .ok (.istore 4, 2) := by decide +kernel
theorem d_readEntry_18 : decode b_readEntry 18 = .ok (.iload 4, 2) := by decide +kernel
theorem d_readEntry_20 : decode b_readEntry 20 = .ok (.iload_n 3, 1) := by decide +kernel
theorem d_readEntry_21 : decode b_readEntry 21 = .ok (.if_icmp .ge 81, 3) := by decide +kernel
theorem d_readEntry_24 : decode b_readEntry 24 = .ok (.aload_n 0, 1) := by decide +kernel
theorem d_readEntry_25 : decode b_readEntry 25 = .ok (.getfield 22, 3) := by decide +kernel
theorem d_readEntry_28 : decode b_readEntry 28 = .ok (.iload 4, 2) := by decide +kernel
theorem d_readEntry_30 : decode b_readEntry 30 = .ok (.invokevirtual 107, 3) := by decide +kernel
theorem d_readEntry_33 : decode b_readEntry 33 = .ok (.bipush 32, 2) := by decide +kernel
theorem d_readEntry_35 : decode b_readEntry 35 = .ok (.if_icmp .eq 67, 3) := by decide +kernel
theorem d_readEntry_38 : decode b_readEntry 38 = .ok (.aload_n 0, 1) := by decide +kernel
theorem d_readEntry_39 : decode b_readEntry 39 = .ok (.getfield 22, 3) := by decide +kernel
theorem d_readEntry_42 : decode b_readEntry 42 = .ok (.iload 4, 2) := by decide +kernel
theorem d_readEntry_44 : decode b_readEntry 44 = .ok (.invokevirtual 107, 3) := by decide +kernel
theorem d_readEntry_47 : decode b_readEntry 47 = .ok (.istore 5, 2) := by decide +kernel
theorem d_readEntry_49 : decode b_readEntry 49 = .ok (.iload_n 1, 1) := by decide +kernel
theorem d_readEntry_50 : decode b_readEntry 50 = .ok (.ifCond .eq 21, 3) := by decide +kernel
theorem d_readEntry_53 : decode b_readEntry 53 = .ok (.aload_n 0, 1) := by decide +kernel
theorem d_readEntry_54 : decode b_readEntry 54 = .ok (.getfield 41, 3) := by decide +kernel
theorem d_readEntry_57 : decode b_readEntry 57 = .ok (.iload 5, 2) := by decide +kernel
theorem d_readEntry_59 : decode b_readEntry 59 = .ok (.aload_n 0, 1) := by decide +kernel
theorem d_readEntry_60 : decode b_readEntry 60 = .ok (.iload 4, 2) := by decide +kernel
theorem d_readEntry_62 : decode b_readEntry 62 = .ok (.invokevirtual 114, 3) := by decide +kernel
theorem d_readEntry_65 : decode b_readEntry 65 = .ok (.invokevirtual 160, 3) := by decide +kernel
theorem d_readEntry_68 : decode b_readEntry 68 = .ok (.goto 18, 3) := by decide +kernel
theorem d_readEntry_71 : decode b_readEntry 71 = .ok (.aload_n 0, 1) := by decide +kernel
theorem d_readEntry_72 : decode b_readEntry 72 = .ok (.getfield 41, 3) := by decide +kernel
theorem d_readEntry_75 : decode b_readEntry 75 = .ok (.iload 5, 2) := by decide +kernel
theorem d_readEntry_77 : decode b_readEntry 77 = .ok (.aload_n 0, 1) := by decide +kernel
theorem d_readEntry_78 : decode b_readEntry 78 = .ok (.iload 4, 2) := by decide +kernel
theorem d_readEntry_80 : decode b_readEntry 80 = .ok (.invokevirtual 114, 3) := by decide +kernel
theorem d_readEntry_83 : decode b_readEntry 83 = .ok (.invokevirtual 164, 3) := by decide +kernel
theorem d_readEntry_86 : decode b_readEntry 86 = .ok (.istore 6, 2) := by decide +kernel
theorem d_readEntry_88 : decode b_readEntry 88 = .ok (.iload 6, 2) := by decide +kernel
theorem d_readEntry_90 : decode b_readEntry 90 = .ok (.ifCond .ne 6, 3) := by decide +kernel
theorem d_readEntry_93 : decode b_readEntry 93 = .ok (.iload 4, 2) := by decide +kernel
theorem d_readEntry_95 : decode b_readEntry 95 = .ok (.ireturn, 1) := by decide +kernel
theorem d_readEntry_96 : decode b_readEntry 96 = .ok (.iinc 4 1, 3) := by decide +kernel
theorem d_readEntry_99 : decode b_readEntry 99 = .ok (.goto (-81), 3) := by decide +kernel
theorem d_readEntry_102 : decode b_readEntry 102 = .ok (.aload_n 0, 1) := by decide +kernel
theorem d_readEntry_103 : decode b_readEntry 103 = .ok (.getfield 41, 3) := by decide +kernel
theorem d_readEntry_106 : decode b_readEntry 106 = .ok (.iload_n 1, 1) := by decide +kernel
theorem d_readEntry_107 : decode b_readEntry 107 = .ok (.invokevirtual 167, 3) := by decide +kernel
theorem d_readEntry_110 : decode b_readEntry 110 = .ok (.ifCond .eq 7, 3) := by decide +kernel
theorem d_readEntry_113 : decode b_readEntry 113 = .ok (.iconst (-1), 1) := by decide +kernel
theorem d_readEntry_114 : decode b_readEntry 114 = .ok (.goto 5, 3) := by decide +kernel
theorem d_readEntry_117 : decode b_readEntry 117 = .ok (.iload 4, 2) := by decide +kernel
theorem d_readEntry_119 : decode b_readEntry 119 = .ok (.ireturn, 1) := by decide +kernel
theorem d_firstWithoutLetter_0 : decode b_firstWithoutLetter 0 = .ok (.aload_n 0, 1) := by decide +kernel
theorem d_firstWithoutLetter_1 : decode b_firstWithoutLetter 1 = .ok (.getfield 22, 3) := by decide +kernel
theorem d_firstWithoutLetter_4 : decode b_firstWithoutLetter 4 = .ok (.getfield 62, 3) := by decide +kernel
theorem d_firstWithoutLetter_7 : decode b_firstWithoutLetter 7 = .ok (.istore_n 1, 1) := by decide +kernel
theorem d_firstWithoutLetter_8 : decode b_firstWithoutLetter 8 = .ok (.iconst 0, 1) := by decide +kernel
theorem d_firstWithoutLetter_9 : decode b_firstWithoutLetter 9 = .ok (.istore_n 2, 1) := by decide +kernel
theorem d_firstWithoutLetter_10 : decode b_firstWithoutLetter 10 = .ok (.iload_n 2, 1) := by decide +kernel
theorem d_firstWithoutLetter_11 : decode b_firstWithoutLetter 11 = .ok (.iload_n 1, 1) := by decide +kernel
theorem d_firstWithoutLetter_12 : decode b_firstWithoutLetter 12 = .ok (.if_icmp .ge 19, 3) := by decide +kernel
theorem d_firstWithoutLetter_15 : decode b_firstWithoutLetter 15 = .ok (.aload_n 0, 1) := by decide +kernel
theorem d_firstWithoutLetter_16 : decode b_firstWithoutLetter 16 = .ok (.iload_n 2, 1) := by decide +kernel
theorem d_firstWithoutLetter_17 : decode b_firstWithoutLetter 17 = .ok (.invokevirtual 114, 3) := by decide +kernel
theorem d_firstWithoutLetter_20 : decode b_firstWithoutLetter 20 = .ok (.ifCond .ne 5, 3) := by decide +kernel
theorem d_firstWithoutLetter_23 : decode b_firstWithoutLetter 23 = .ok (.iload_n 2, 1) := by decide +kernel
theorem d_firstWithoutLetter_24 : decode b_firstWithoutLetter 24 = .ok (.ireturn, 1) := by decide +kernel
theorem d_firstWithoutLetter_25 : decode b_firstWithoutLetter 25 = .ok (.iinc 2 1, 3) := by decide +kernel
theorem d_firstWithoutLetter_28 : decode b_firstWithoutLetter 28 = .ok (.goto (-18), 3) := by decide +kernel
theorem d_firstWithoutLetter_31 : decode b_firstWithoutLetter 31 = .ok (.iload_n 1, 1) := by decide +kernel
theorem d_firstWithoutLetter_32 : decode b_firstWithoutLetter 32 = .ok (.ifCond .ne 7, 3) := by decide +kernel
theorem d_firstWithoutLetter_35 : decode b_firstWithoutLetter 35 = .ok (.iconst 0, 1) := by decide +kernel
theorem d_firstWithoutLetter_36 : decode b_firstWithoutLetter 36 = .ok (.goto 4, 3) := by decide +kernel
theorem d_firstWithoutLetter_39 : decode b_firstWithoutLetter 39 = .ok (.iconst (-1), 1) := by decide +kernel
theorem d_firstWithoutLetter_40 : decode b_firstWithoutLetter 40 = .ok (.ireturn, 1) := by decide +kernel
theorem d_runOfLetters_0 : decode b_runOfLetters 0 = .ok (.aload_n 0, 1) := by decide +kernel
theorem d_runOfLetters_1 : decode b_runOfLetters 1 = .ok (.getfield 22, 3) := by decide +kernel
theorem d_runOfLetters_4 : decode b_runOfLetters 4 = .ok (.getfield 62, 3) := by decide +kernel
theorem d_runOfLetters_7 : decode b_runOfLetters 7 = .ok (.istore_n 2, 1) := by decide +kernel
theorem d_runOfLetters_8 : decode b_runOfLetters 8 = .ok (.iload_n 1, 1) := by decide +kernel
theorem d_runOfLetters_9 : decode b_runOfLetters 9 = .ok (.istore_n 3, 1) := by decide +kernel
theorem d_runOfLetters_10 : decode b_runOfLetters 10 = .ok (.iload_n 3, 1) := by decide +kernel
theorem d_runOfLetters_11 : decode b_runOfLetters 11 = .ok (.iload_n 2, 1) := by decide +kernel
theorem d_runOfLetters_12 : decode b_runOfLetters 12 = .ok (.if_icmp .ge 17, 3) := by decide +kernel
theorem d_runOfLetters_15 : decode b_runOfLetters 15 = .ok (.aload_n 0, 1) := by decide +kernel
theorem d_runOfLetters_16 : decode b_runOfLetters 16 = .ok (.iload_n 3, 1) := by decide +kernel
theorem d_runOfLetters_17 : decode b_runOfLetters 17 = .ok (.invokevirtual 114, 3) := by decide +kernel
theorem d_runOfLetters_20 : decode b_runOfLetters 20 = .ok (.ifCond .eq 9, 3) := by decide +kernel
theorem d_runOfLetters_23 : decode b_runOfLetters 23 = .ok (.iinc 3 1, 3) := by decide +kernel
theorem d_runOfLetters_26 : decode b_runOfLetters 26 = .ok (.goto (-16), 3) := by decide +kernel
theorem d_runOfLetters_29 : decode b_runOfLetters 29 = .ok (.iload_n 3, 1) := by decide +kernel
theorem d_runOfLetters_30 : decode b_runOfLetters 30 = .ok (.iload_n 1, 1) := by decide +kernel
theorem d_runOfLetters_31 : decode b_runOfLetters 31 = .ok (.isub, 1) := by decide +kernel
theorem d_runOfLetters_32 : decode b_runOfLetters 32 = .ok (.ireturn, 1) := by decide +kernel
