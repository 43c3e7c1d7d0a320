theorem d_En_start_0 : decode b_En_start 0 = .ok (.aload_n 0, 1) := by decide +kernel
theorem d_En_start_1 : decode b_En_start 1 = .ok (.getfield 14, 3) := by decide +kernel
theorem d_En_start_4 : decode b_En_start 4 = .ok (.iconst 0, 1) := by decide +kernel
theorem d_En_start_5 : decode b_En_start 5 = .ok (.invokevirtual 23, 3) := by decide +kernel
theorem d_En_start_8 : decode b_En_start 8 = .ok (.aload_n 0, 1) := by decide +kernel
theorem d_En_start_9 : decode b_En_start 9 = .ok (.getfield 20, 3) := by decide +kernel
theorem d_En_start_12 : decode b_En_start 12 = .ok (.iconst 0, 1) := by decide +kernel
theorem d_En_start_13 : decode b_En_start 13 = .ok (.invokevirtual 23, 3) := by decide +kernel
theorem d_En_start_16 : decode b_En_start 16 = .ok (.aload_n 0, 1) := by decide +kernel
theorem d_En_start_17 : decode b_En_start 17 = .ok (.getfield 20, 3) := by decide +kernel
theorem d_En_start_20 : decode b_En_start 20 = .ok (.iconst 0, 1) := by decide +kernel
theorem d_En_start_21 : decode b_En_start 21 = .ok (.invokevirtual 26, 3) := by decide +kernel
theorem d_En_start_24 : decode b_En_start 24 = .ok (.aload_n 0, 1) := by decide +kernel
theorem d_En_start_25 : decode b_En_start 25 = .ok (.iconst 0, 1) := by decide +kernel
theorem d_En_start_26 : decode b_En_start 26 = .ok (.putfield 29, 3) := by decide +kernel
theorem d_En_start_29 : decode b_En_start 29 = .ok (.aload_n 0, 1) := by decide +kernel
theorem d_En_start_30 : decode b_En_start 30 = .ok (.iconst 0, 1) := by decide +kernel
theorem d_En_start_31 : decode b_En_start 31 = .ok (.putfield 33, 3) := by decide +kernel
theorem d_En_start_34 : decode b_En_start 34 = .ok (.aload_n 0, 1) := by decide +kernel
theorem d_En_start_35 : decode b_En_start 35 = .ok (.iconst 0, 1) := by decide +kernel
theorem d_En_start_36 : decode b_En_start 36 = .ok (.putfield 36, 3) := by decide +kernel
theorem d_En_start_39 : decode b_En_start 39 = .ok (.return_, 1) := by decide +kernel
theorem d_En_isWhole_0 : decode b_En_isWhole 0 = .ok (.aload_n 0, 1) := by decide +kernel
theorem d_En_isWhole_1 : decode b_En_isWhole 1 = .ok (.getfield 29, 3) := by decide +kernel
theorem d_En_isWhole_4 : decode b_En_isWhole 4 = .ok (.ifCond .le 18, 3) := by decide +kernel
theorem d_En_isWhole_7 : decode b_En_isWhole 7 = .ok (.iload_n 1, 1) := by decide +kernel
theorem d_En_isWhole_8 : decode b_En_isWhole 8 = .ok (.ifCond .eq 10, 3) := by decide +kernel
theorem d_En_isWhole_11 : decode b_En_isWhole 11 = .ok (.aload_n 0, 1) := by decide +kernel
theorem d_En_isWhole_12 : decode b_En_isWhole 12 = .ok (.getfield 36, 3) := by decide +kernel
theorem d_En_isWhole_15 : decode b_En_isWhole 15 = .ok (.ifCond .ne 7, 3) := by decide +kernel
theorem d_En_isWhole_18 : decode b_En_isWhole 18 = .ok (.iconst 1, 1) := by decide +kernel
theorem d_En_isWhole_19 : decode b_En_isWhole 19 = .ok (.goto 4, 3) := by decide +kernel
theorem d_En_isWhole_22 : decode b_En_isWhole 22 = .ok (.iconst 0, 1) := by decide +kernel
theorem d_En_isWhole_23 : decode b_En_isWhole 23 = .ok (.ireturn, 1) := by decide +kernel
theorem d_En_takeDot_0 : decode b_En_takeDot 0 = .ok (.aload_n 0, 1) := by decide +kernel
theorem d_En_takeDot_1 : decode b_En_takeDot 1 = .ok (.getfield 29, 3) := by decide +kernel
theorem d_En_takeDot_4 : decode b_En_takeDot 4 = .ok (.ifCond .ne 7, 3) := by decide +kernel
theorem d_En_takeDot_7 : decode b_En_takeDot 7 = .ok (.iconst 1, 1) := by decide +kernel
theorem d_En_takeDot_8 : decode b_En_takeDot 8 = .ok (.goto 4, 3) := by decide +kernel
theorem d_En_takeDot_11 : decode b_En_takeDot 11 = .ok (.iconst 0, 1) := by decide +kernel
theorem d_En_takeDot_12 : decode b_En_takeDot 12 = .ok (.istore_n 1, 1) := by decide +kernel
theorem d_En_takeDot_13 : decode b_En_takeDot 13 = .ok (.iload_n 1, 1) := by decide +kernel
theorem d_En_takeDot_14 : decode b_En_takeDot 14 = .ok (.ifCond .eq 25, 3) := by decide +kernel
theorem d_En_takeDot_17 : decode b_En_takeDot 17 = .ok (.aload_n 0, 1) := by decide +kernel
theorem d_En_takeDot_18 : decode b_En_takeDot 18 = .ok (.getfield 33, 3) := by decide +kernel
theorem d_En_takeDot_21 : decode b_En_takeDot 21 = .ok (.ifCond .ne 14, 3) := by decide +kernel
theorem d_En_takeDot_24 : decode b_En_takeDot 24 = .ok (.aload_n 0, 1) := by decide +kernel
theorem d_En_takeDot_25 : decode b_En_takeDot 25 = .ok (.getfield 36, 3) := by decide +kernel
theorem d_En_takeDot_28 : decode b_En_takeDot 28 = .ok (.ifCond .ne 7, 3) := by decide +kernel
theorem d_En_takeDot_31 : decode b_En_takeDot 31 = .ok (.iconst 1, 1) := by decide +kernel
theorem d_En_takeDot_32 : decode b_En_takeDot 32 = .ok (.goto 21, 3) := by decide +kernel
theorem d_En_takeDot_35 : decode b_En_takeDot 35 = .ok (.iconst 0, 1) := by decide +kernel
theorem d_En_takeDot_36 : decode b_En_takeDot 36 = .ok (.goto 17, 3) := by decide +kernel
theorem d_En_takeDot_39 : decode b_En_takeDot 39 = .ok (.aload_n 0, 1) := by decide +kernel
theorem d_En_takeDot_40 : decode b_En_takeDot 40 = .ok (.getfield 33, 3) := by decide +kernel
theorem d_En_takeDot_43 : decode b_En_takeDot 43 = .ok (.iconst 2, 1) := by decide +kernel
theorem d_En_takeDot_44 : decode b_En_takeDot 44 = .ok (.iand, 1) := by decide +kernel
theorem d_En_takeDot_45 : decode b_En_takeDot 45 = .ok (.ifCond .ne 7, 3) := by decide +kernel
theorem d_En_takeDot_48 : decode b_En_takeDot 48 = .ok (.iconst 1, 1) := by decide +kernel
theorem d_En_takeDot_49 : decode b_En_takeDot 49 = .ok (.goto 4, 3) := by decide +kernel
theorem d_En_takeDot_52 : decode b_En_takeDot 52 = .ok (.iconst 0, 1) := by decide +kernel
theorem d_En_takeDot_53 : decode b_En_takeDot 53 = .ok (.istore_n 2, 1) := by decide +kernel
theorem d_En_takeDot_54 : decode b_En_takeDot 54 = .ok (.aload_n 0, 1) := by decide +kernel
theorem d_En_takeDot_55 : decode b_En_takeDot 55 = .ok (.dup, 1) := by decide +kernel
theorem d_En_takeDot_56 : decode b_En_takeDot 56 = .ok (.getfield 33, 3) := by decide +kernel
theorem d_En_takeDot_59 : decode b_En_takeDot 59 = .ok (.iload_n 1, 1) := by decide +kernel
theorem d_En_takeDot_60 : decode b_En_takeDot 60 = .ok (.ifCond .eq 7, 3) := by decide +kernel
theorem d_En_takeDot_63 : decode b_En_takeDot 63 = .ok (.iconst 1, 1) := by decide +kernel
theorem d_En_takeDot_64 : decode b_En_takeDot 64 = .ok (.goto 4, 3) := by decide +kernel
theorem d_En_takeDot_67 : decode b_En_takeDot 67 = .ok (.iconst 2, 1) := by decide +kernel
theorem d_En_takeDot_68 : decode b_En_takeDot 68 = .ok (.ior, 1) := by decide +kernel
theorem d_En_takeDot_69 : decode b_En_takeDot 69 = .ok (.putfield 33, 3) := by decide +kernel
theorem d_En_takeDot_72 : decode b_En_takeDot 72 = .ok (.iload_n 2, 1) := by decide +kernel
theorem d_En_takeDot_73 : decode b_En_takeDot 73 = .ok (.ireturn, 1) := by decide +kernel
theorem d_En_takeMark_0 : decode b_En_takeMark 0 = .ok (.aload_n 0, 1) := by decide +kernel
theorem d_En_takeMark_1 : decode b_En_takeMark 1 = .ok (.getfield 36, 3) := by decide +kernel
theorem d_En_takeMark_4 : decode b_En_takeMark 4 = .ok (.ifCond .eq 5, 3) := by decide +kernel
theorem d_En_takeMark_7 : decode b_En_takeMark 7 = .ok (.iconst 0, 1) := by decide +kernel
theorem d_En_takeMark_8 : decode b_En_takeMark 8 = .ok (.ireturn, 1) := by decide +kernel
theorem d_En_takeMark_9 : decode b_En_takeMark 9 = .ok (.aload_n 0, 1) := by decide +kernel
theorem d_En_takeMark_10 : decode b_En_takeMark 10 = .ok (.iconst 1, 1) := by decide +kernel
theorem d_En_takeMark_11 : decode b_En_takeMark 11 = .ok (.putfield 36, 3) := by decide +kernel
theorem d_En_takeMark_14 : decode b_En_takeMark 14 = .ok (.aload_n 0, 1) := by decide +kernel
theorem d_En_takeMark_15 : decode b_En_takeMark 15 = .ok (.getfield 20, 3) := by decide +kernel
theorem d_En_takeMark_18 : decode b_En_takeMark 18 = .ok (.aload_n 0, 1) := by decide +kernel
theorem d_En_takeMark_19 : decode b_En_takeMark 19 = .ok (.getfield 29, 3) := by decide +kernel
theorem d_En_takeMark_22 : decode b_En_takeMark 22 = .ok (.iload_n 1, 1) := by decide +kernel
theorem d_En_takeMark_23 : decode b_En_takeMark 23 = .ok (.invokevirtual 54, 3) := by decide +kernel
theorem d_En_takeMark_26 : decode b_En_takeMark 26 = .ok (.iconst 1, 1) := by decide +kernel
theorem d_En_takeMark_27 : decode b_En_takeMark 27 = .ok (.ireturn, 1) := by decide +kernel
theorem d_En_takeLetter_0 : decode b_En_takeLetter 0 = .ok (.iload_n 1, 1) := by decide +kernel
theorem d_En_takeLetter_1 : decode b_En_takeLetter 1 = .ok (.iconst 1, 1) := by decide +kernel
theorem d_En_takeLetter_2 : decode b_En_takeLetter 2 = .ok (.if_icmp .ge 5, 3) := by decide +kernel
theorem d_En_takeLetter_5 : decode b_En_takeLetter 5 = .ok (.iconst 0, 1) := by decide +kernel
theorem d_En_takeLetter_6 : decode b_En_takeLetter 6 = .ok (.ireturn, 1) := by decide +kernel
theorem d_En_takeLetter_7 : decode b_En_takeLetter 7 = .ok (.aload_n 0, 1) := by decide +kernel
theorem d_En_takeLetter_8 : decode b_En_takeLetter 8 = .ok (.getfield 14, 3) := by decide +kernel
theorem d_En_takeLetter_11 : decode b_En_takeLetter 11 = .ok (.iload_n 1, 1) := by decide +kernel
theorem d_En_takeLetter_12 : decode b_En_takeLetter 12 = .ok (.invokevirtual 26, 3) := by decide +kernel
theorem d_En_takeLetter_15 : decode b_En_takeLetter 15 = .ok (.aload_n 0, 1) := by decide +kernel
theorem d_En_takeLetter_16 : decode b_En_takeLetter 16 = .ok (.getfield 20, 3) := by decide +kernel
theorem d_En_takeLetter_19 : decode b_En_takeLetter 19 = .ok (.iconst 0, 1) := by decide +kernel
theorem d_En_takeLetter_20 : decode b_En_takeLetter 20 = .ok (.invokevirtual 26, 3) := by decide +kernel
theorem d_En_takeLetter_23 : decode b_En_takeLetter 23 = .ok (.aload_n 0, 1) := by decide +kernel
theorem d_En_takeLetter_24 : decode b_En_takeLetter 24 = .ok (.dup, 1) := by decide +kernel
theorem d_En_takeLetter_25 : decode b_En_takeLetter 25 = .ok (.getfield 29, 3) := by decide +kernel
theorem d_En_takeLetter_28 : decode b_En_takeLetter 28 = .ok (.iconst 1, 1) := by decide +kernel
theorem d_En_takeLetter_29 : decode b_En_takeLetter 29 = .ok (.iadd, 1) := by decide +kernel
theorem d_En_takeLetter_30 : decode b_En_takeLetter 30 = .ok (.putfield 29, 3) := by decide +kernel
theorem d_En_takeLetter_33 : decode b_En_takeLetter 33 = .ok (.aload_n 0, 1) := by decide +kernel
theorem d_En_takeLetter_34 : decode b_En_takeLetter 34 = .ok (.iconst 0, 1) := by decide +kernel
theorem d_En_takeLetter_35 : decode b_En_takeLetter 35 = .ok (.putfield 36, 3) := by decide +kernel
theorem d_En_takeLetter_38 : decode b_En_takeLetter 38 = .ok (.iconst 1, 1) := by decide +kernel
theorem d_En_takeLetter_39 : decode b_En_takeLetter 39 = .ok (.ireturn, 1) := by decide +kernel
theorem d_En_takeOfPattern_0 : decode b_En_takeOfPattern 0 = .ok (.iload_n 1, 1) := by decide +kernel
theorem d_En_takeOfPattern_1 : decode b_En_takeOfPattern 1 = .ok (.bipush 46, 2) := by decide +kernel
theorem d_En_takeOfPattern_3 : decode b_En_takeOfPattern 3 = .ok (.if_icmp .ne 8, 3) := by decide +kernel
theorem d_En_takeOfPattern_6 : decode b_En_takeOfPattern 6 = .ok (.aload_n 0, 1) := by decide +kernel
theorem d_En_takeOfPattern_7 : decode b_En_takeOfPattern 7 = .ok (.invokevirtual 40, 3) := by decide +kernel
theorem d_En_takeOfPattern_10 : decode b_En_takeOfPattern 10 = .ok (.ireturn, 1) := by decide +kernel
theorem d_En_takeOfPattern_11 : decode b_En_takeOfPattern 11 = .ok (.aload_n 0, 1) := by decide +kernel
theorem d_En_takeOfPattern_12 : decode b_En_takeOfPattern 12 = .ok (.getfield 33, 3) := by decide +kernel
theorem d_En_takeOfPattern_15 : decode b_En_takeOfPattern 15 = .ok (.iconst 2, 1) := by decide +kernel
theorem d_En_takeOfPattern_16 : decode b_En_takeOfPattern 16 = .ok (.iand, 1) := by decide +kernel
theorem d_En_takeOfPattern_17 : decode b_En_takeOfPattern 17 = .ok (.ifCond .eq 5, 3) := by decide +kernel
theorem d_En_takeOfPattern_20 : decode b_En_takeOfPattern 20 = .ok (.iconst 0, 1) := by decide +kernel
theorem d_En_takeOfPattern_21 : decode b_En_takeOfPattern 21 = .ok (.ireturn, 1) := by decide +kernel
theorem d_En_takeOfPattern_22 : decode b_En_takeOfPattern 22 = .ok (.iload_n 1, 1) := by decide +kernel
theorem d_En_takeOfPattern_23 : decode b_En_takeOfPattern 23 = .ok (.invokestatic 44, 3) := by decide +kernel
theorem d_En_takeOfPattern_26 : decode b_En_takeOfPattern 26 = .ok (.ifCond .eq 14, 3) := by decide +kernel
theorem d_En_takeOfPattern_29 : decode b_En_takeOfPattern 29 = .ok (.aload_n 0, 1) := by decide +kernel
theorem d_En_takeOfPattern_30 : decode b_En_takeOfPattern 30 = .ok (.iload_n 1, 1) := by decide +kernel
theorem d_En_takeOfPattern_31 : decode b_En_takeOfPattern 31 = .ok (.bipush 48, 2) := by decide +kernel
theorem d_En_takeOfPattern_33 : decode b_En_takeOfPattern 33 = .ok (.isub, 1) := by decide +kernel
theorem d_En_takeOfPattern_34 : decode b_En_takeOfPattern 34 = .ok (.invokevirtual 48, 3) := by decide +kernel
theorem d_En_takeOfPattern_37 : decode b_En_takeOfPattern 37 = .ok (.goto 8, 3) := by decide +kernel
theorem d_En_takeOfPattern_40 : decode b_En_takeOfPattern 40 = .ok (.aload_n 0, 1) := by decide +kernel
theorem d_En_takeOfPattern_41 : decode b_En_takeOfPattern 41 = .ok (.iload_n 2, 1) := by decide +kernel
theorem d_En_takeOfPattern_42 : decode b_En_takeOfPattern 42 = .ok (.invokevirtual 51, 3) := by decide +kernel
theorem d_En_takeOfPattern_45 : decode b_En_takeOfPattern 45 = .ok (.ireturn, 1) := by decide +kernel
theorem d_En_takeOfTold_0 : decode b_En_takeOfTold 0 = .ok (.iload_n 1, 1) := by decide +kernel
theorem d_En_takeOfTold_1 : decode b_En_takeOfTold 1 = .ok (.bipush 45, 2) := by decide +kernel
theorem d_En_takeOfTold_3 : decode b_En_takeOfTold 3 = .ok (.if_icmp .ne 24, 3) := by decide +kernel
theorem d_En_takeOfTold_6 : decode b_En_takeOfTold 6 = .ok (.aload_n 0, 1) := by decide +kernel
theorem d_En_takeOfTold_7 : decode b_En_takeOfTold 7 = .ok (.getfield 29, 3) := by decide +kernel
theorem d_En_takeOfTold_10 : decode b_En_takeOfTold 10 = .ok (.ifCond .le 15, 3) := by decide +kernel
theorem d_En_takeOfTold_13 : decode b_En_takeOfTold 13 = .ok (.aload_n 0, 1) := by decide +kernel
theorem d_En_takeOfTold_14 : decode b_En_takeOfTold 14 = .ok (.iconst 1, 1) := by decide +kernel
theorem d_En_takeOfTold_15 : decode b_En_takeOfTold 15 = .ok (.invokevirtual 48, 3) := by decide +kernel
theorem d_En_takeOfTold_18 : decode b_En_takeOfTold 18 = .ok (.ifCond .eq 7, 3) := by decide +kernel
theorem d_En_takeOfTold_21 : decode b_En_takeOfTold 21 = .ok (.iconst 1, 1) := by decide +kernel
theorem d_En_takeOfTold_22 : decode b_En_takeOfTold 22 = .ok (.goto 4, 3) := by decide +kernel
theorem d_En_takeOfTold_25 : decode b_En_takeOfTold 25 = .ok (.iconst 0, 1) := by decide +kernel
theorem d_En_takeOfTold_26 : decode b_En_takeOfTold 26 = .ok (.ireturn, 1) := by decide +kernel
theorem d_En_takeOfTold_27 : decode b_En_takeOfTold 27 = .ok (.aload_n 0, 1) := by decide +kernel
theorem d_En_takeOfTold_28 : decode b_En_takeOfTold 28 = .ok (.iload_n 2, 1) := by decide +kernel
theorem d_En_takeOfTold_29 : decode b_En_takeOfTold 29 = .ok (.invokevirtual 51, 3) := by decide +kernel
theorem d_En_takeOfTold_32 : decode b_En_takeOfTold 32 = .ok (.ireturn, 1) := by decide +kernel
