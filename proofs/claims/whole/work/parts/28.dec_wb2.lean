theorem d_shelve_0 : decode b_shelve 0 = .ok (.aload_n 0, 1) := by decide +kernel
theorem d_shelve_1 : decode b_shelve 1 = .ok (.getfield 41, 3) := by decide +kernel
theorem d_shelve_4 : decode b_shelve 4 = .ok (.getfield 141, 3) := by decide +kernel
theorem d_shelve_7 : decode b_shelve 7 = .ok (.bipush 63, 2) := by decide +kernel
theorem d_shelve_9 : decode b_shelve 9 = .ok (.if_icmp .le 9, 3) := by decide +kernel
theorem d_shelve_12 : decode b_shelve 12 = .ok (.iconst 2, 1) := by decide +kernel
theorem d_shelve_13 : decode b_shelve 13 = .ok (.iload_n 3, 1) := by decide +kernel
theorem d_shelve_14 : decode b_shelve 14 = .ok (.invokestatic 137, 3) := by decide +kernel
theorem d_shelve_17 : decode b_shelve 17 = .ok (.ireturn, 1) := by decide +kernel
theorem d_shelve_18 : decode b_shelve 18 = .ok (.aload_n 1, 1) := by decide +kernel
theorem d_shelve_19 : decode b_shelve 19 = .ok (.aload_n 0, 1) := by decide +kernel
theorem d_shelve_20 : decode b_shelve 20 = .ok (.getfield 41, 3) := by decide +kernel
theorem d_shelve_23 : decode b_shelve 23 = .ok (.getfield 144, 3) := by decide +kernel
theorem d_shelve_26 : decode b_shelve 26 = .ok (.aload_n 0, 1) := by decide +kernel
theorem d_shelve_27 : decode b_shelve 27 = .ok (.getfield 41, 3) := by decide +kernel
theorem d_shelve_30 : decode b_shelve 30 = .ok (.getfield 147, 3) := by decide +kernel
theorem d_shelve_33 : decode b_shelve 33 = .ok (.invokevirtual 150, 3) := by decide +kernel
theorem d_shelve_36 : decode b_shelve 36 = .ok (.iconst (-1), 1) := by decide +kernel
theorem d_shelve_37 : decode b_shelve 37 = .ok (.if_icmp .eq 17, 3) := by decide +kernel
theorem d_shelve_40 : decode b_shelve 40 = .ok (.iload_n 2, 1) := by decide +kernel
theorem d_shelve_41 : decode b_shelve 41 = .ok (.ifCond .eq 7, 3) := by decide +kernel
theorem d_shelve_44 : decode b_shelve 44 = .ok (.iconst 0, 1) := by decide +kernel
theorem d_shelve_45 : decode b_shelve 45 = .ok (.goto 8, 3) := by decide +kernel
theorem d_shelve_48 : decode b_shelve 48 = .ok (.iconst 3, 1) := by decide +kernel
theorem d_shelve_49 : decode b_shelve 49 = .ok (.iload_n 3, 1) := by decide +kernel
theorem d_shelve_50 : decode b_shelve 50 = .ok (.invokestatic 137, 3) := by decide +kernel
theorem d_shelve_53 : decode b_shelve 53 = .ok (.ireturn, 1) := by decide +kernel
theorem d_shelve_54 : decode b_shelve 54 = .ok (.aload_n 1, 1) := by decide +kernel
theorem d_shelve_55 : decode b_shelve 55 = .ok (.aload_n 0, 1) := by decide +kernel
theorem d_shelve_56 : decode b_shelve 56 = .ok (.getfield 41, 3) := by decide +kernel
theorem d_shelve_59 : decode b_shelve 59 = .ok (.invokevirtual 154, 3) := by decide +kernel
theorem d_shelve_62 : decode b_shelve 62 = .ok (.ifCond .eq 7, 3) := by decide +kernel
theorem d_shelve_65 : decode b_shelve 65 = .ok (.iconst 0, 1) := by decide +kernel
theorem d_shelve_66 : decode b_shelve 66 = .ok (.goto 8, 3) := by decide +kernel
theorem d_shelve_69 : decode b_shelve 69 = .ok (.iconst 4, 1) := by decide +kernel
theorem d_shelve_70 : decode b_shelve 70 = .ok (.iload_n 3, 1) := by decide +kernel
theorem d_shelve_71 : decode b_shelve 71 = .ok (.invokestatic 137, 3) := by decide +kernel
theorem d_shelve_74 : decode b_shelve 74 = .ok (.ireturn, 1) := by decide +kernel
theorem d_takeIn_0 : decode b_takeIn 0 = .ok (.aload_n 1, 1) := by decide +kernel
theorem d_takeIn_1 : decode b_takeIn 1 = .ok (.getfield 94, 3) := by decide +kernel
theorem d_takeIn_4 : decode b_takeIn 4 = .ok (.istore_n 3, 1) := by decide +kernel
theorem d_takeIn_5 : decode b_takeIn 5 = .ok (.iconst 0, 1) := by decide +kernel
theorem d_takeIn_6 : decode b_takeIn 6 = .ok (.istore 4, 2) := by decide +kernel
theorem d_takeIn_8 : decode b_takeIn 8 = .ok (.aload_n 0, 1) := by decide +kernel
theorem d_takeIn_9 : decode b_takeIn 9 = .ok (.getfield 22, 3) := by decide +kernel
theorem d_takeIn_12 : decode b_takeIn 12 = .ok (.getfield 62, 3) := by decide +kernel
theorem d_takeIn_15 : decode b_takeIn 15 = .ok (.istore 5, 2) := by decide +kernel
theorem d_takeIn_17 : decode b_takeIn 17 = .ok (.iconst 0, 1) := by decide +kernel
theorem d_takeIn_18 : decode b_takeIn 18 = .ok (.istore 6, 2) := by decide +kernel
theorem d_takeIn_20 : decode b_takeIn 20 = .ok (.iload 6, 2) := by decide +kernel
theorem d_takeIn_22 : decode b_takeIn 22 = .ok (.iload 5, 2) := by decide +kernel
theorem d_takeIn_24 : decode b_takeIn 24 = .ok (.if_icmp .ge 68, 3) := by decide +kernel
theorem d_takeIn_27 : decode b_takeIn 27 = .ok (.aload_n 0, 1) := by decide +kernel
theorem d_takeIn_28 : decode b_takeIn 28 = .ok (.iload 6, 2) := by decide +kernel
theorem d_takeIn_30 : decode b_takeIn 30 = .ok (.invokevirtual 126, 3) := by decide +kernel
theorem d_takeIn_33 : decode b_takeIn 33 = .ok (.ifCond .eq 53, 3) := by decide +kernel
theorem d_takeIn_36 : decode b_takeIn 36 = .ok (.aload_n 0, 1) := by decide +kernel
theorem d_takeIn_37 : decode b_takeIn 37 = .ok (.iload_n 2, 1) := by decide +kernel
theorem d_takeIn_38 : decode b_takeIn 38 = .ok (.iload 6, 2) := by decide +kernel
theorem d_takeIn_40 : decode b_takeIn 40 = .ok (.invokevirtual 129, 3) := by decide +kernel
theorem d_takeIn_43 : decode b_takeIn 43 = .ok (.istore 7, 2) := by decide +kernel
theorem d_takeIn_45 : decode b_takeIn 45 = .ok (.iload 7, 2) := by decide +kernel
theorem d_takeIn_47 : decode b_takeIn 47 = .ok (.iconst (-1), 1) := by decide +kernel
theorem d_takeIn_48 : decode b_takeIn 48 = .ok (.if_icmp .ne 14, 3) := by decide +kernel
theorem d_takeIn_51 : decode b_takeIn 51 = .ok (.aload_n 0, 1) := by decide +kernel
theorem d_takeIn_52 : decode b_takeIn 52 = .ok (.aload_n 1, 1) := by decide +kernel
theorem d_takeIn_53 : decode b_takeIn 53 = .ok (.iload_n 2, 1) := by decide +kernel
theorem d_takeIn_54 : decode b_takeIn 54 = .ok (.iload 6, 2) := by decide +kernel
theorem d_takeIn_56 : decode b_takeIn 56 = .ok (.invokevirtual 133, 3) := by decide +kernel
theorem d_takeIn_59 : decode b_takeIn 59 = .ok (.goto 9, 3) := by decide +kernel
theorem d_takeIn_62 : decode b_takeIn 62 = .ok (.iconst 1, 1) := by decide +kernel
theorem d_takeIn_63 : decode b_takeIn 63 = .ok (.iload 7, 2) := by decide +kernel
theorem d_takeIn_65 : decode b_takeIn 65 = .ok (.invokestatic 137, 3) := by decide +kernel
theorem d_takeIn_68 : decode b_takeIn 68 = .ok (.istore 8, 2) := by decide +kernel
theorem d_takeIn_70 : decode b_takeIn 70 = .ok (.iload 8, 2) := by decide +kernel
theorem d_takeIn_72 : decode b_takeIn 72 = .ok (.ifCond .eq 11, 3) := by decide +kernel
theorem d_takeIn_75 : decode b_takeIn 75 = .ok (.aload_n 1, 1) := by decide +kernel
theorem d_takeIn_76 : decode b_takeIn 76 = .ok (.iload_n 3, 1) := by decide +kernel
theorem d_takeIn_77 : decode b_takeIn 77 = .ok (.invokevirtual 97, 3) := by decide +kernel
theorem d_takeIn_80 : decode b_takeIn 80 = .ok (.iload 8, 2) := by decide +kernel
theorem d_takeIn_82 : decode b_takeIn 82 = .ok (.ireturn, 1) := by decide +kernel
theorem d_takeIn_83 : decode b_takeIn 83 = .ok (.iinc 4 1, 3) := by decide +kernel
theorem d_takeIn_86 : decode b_takeIn 86 = .ok (.iinc 6 1, 3) := by decide +kernel
theorem d_takeIn_89 : decode b_takeIn 89 = .ok (.goto (-69), 3) := by decide +kernel
theorem d_takeIn_92 : decode b_takeIn 92 = .ok (.iload 4, 2) := by decide +kernel
theorem d_takeIn_94 : decode b_takeIn 94 = .ok (.ireturn, 1) := by decide +kernel
theorem d_retell_0 : decode b_retell 0 = .ok (.aload_n 0, 1) := by decide +kernel
theorem d_retell_1 : decode b_retell 1 = .ok (.getfield 22, 3) := by decide +kernel
theorem d_retell_4 : decode b_retell 4 = .ok (.getfield 62, 3) := by decide +kernel
theorem d_retell_7 : decode b_retell 7 = .ok (.istore_n 1, 1) := by decide +kernel
theorem d_retell_8 : decode b_retell 8 = .ok (.iconst 0, 1) := by decide +kernel
theorem d_retell_9 : decode b_retell 9 = .ok (.istore_n 2, 1) := by decide +kernel
theorem d_retell_10 : decode b_retell 10 = .ok (.iload_n 2, 1) := by decide +kernel
theorem d_retell_11 : decode b_retell 11 = .ok (.iload_n 1, 1) := by decide +kernel
theorem d_retell_12 : decode b_retell 12 = .ok (.if_icmp .ge 62, 3) := by decide +kernel
theorem d_retell_15 : decode b_retell 15 = .ok (.aload_n 0, 1) := by decide +kernel
theorem d_retell_16 : decode b_retell 16 = .ok (.iload_n 2, 1) := by decide +kernel
theorem d_retell_17 : decode b_retell 17 = .ok (.invokevirtual 126, 3) := by decide +kernel
theorem d_retell_20 : decode b_retell 20 = .ok (.ifCond .eq 48, 3) := by decide +kernel
theorem d_retell_23 : decode b_retell 23 = .ok (.aload_n 0, 1) := by decide +kernel
theorem d_retell_24 : decode b_retell 24 = .ok (.iconst 1, 1) := by decide +kernel
theorem d_retell_25 : decode b_retell 25 = .ok (.iload_n 2, 1) := by decide +kernel
theorem d_retell_26 : decode b_retell 26 = .ok (.invokevirtual 129, 3) := by decide +kernel
theorem d_retell_29 : decode b_retell 29 = .ok (.iconst (-1), 1) := by decide +kernel
theorem d_retell_30 : decode b_retell 30 = .ok (.if_icmp .ne 38, 3) := by decide +kernel
theorem d_retell_33 : decode b_retell 33 = .ok (.aload_n 0, 1) := by decide +kernel
theorem d_retell_34 : decode b_retell 34 = .ok (.getfield 35, 3) := by decide +kernel
theorem d_retell_37 : decode b_retell 37 = .ok (.aload_n 0, 1) := by decide +kernel
theorem d_retell_38 : decode b_retell 38 = .ok (.getfield 35, 3) := by decide +kernel
theorem d_retell_41 : decode b_retell 41 = .ok (.aload_n 0, 1) := by decide +kernel
theorem d_retell_42 : decode b_retell 42 = .ok (.getfield 41, 3) := by decide +kernel
theorem d_retell_45 : decode b_retell 45 = .ok (.getfield 144, 3) := by decide +kernel
theorem d_retell_48 : decode b_retell 48 = .ok (.aload_n 0, 1) := by decide +kernel
theorem d_retell_49 : decode b_retell 49 = .ok (.getfield 41, 3) := by decide +kernel
theorem d_retell_52 : decode b_retell 52 = .ok (.getfield 147, 3) := by decide +kernel
theorem d_retell_55 : decode b_retell 55 = .ok (.invokevirtual 150, 3) := by decide +kernel
theorem d_retell_58 : decode b_retell 58 = .ok (.aload_n 0, 1) := by decide +kernel
theorem d_retell_59 : decode b_retell 59 = .ok (.getfield 41, 3) := by decide +kernel
theorem d_retell_62 : decode b_retell 62 = .ok (.getfield 171, 3) := by decide +kernel
theorem d_retell_65 : decode b_retell 65 = .ok (.invokevirtual 174, 3) := by decide +kernel
theorem d_retell_68 : decode b_retell 68 = .ok (.iinc 2 1, 3) := by decide +kernel
theorem d_retell_71 : decode b_retell 71 = .ok (.goto (-61), 3) := by decide +kernel
theorem d_retell_74 : decode b_retell 74 = .ok (.return_, 1) := by decide +kernel
