theorem d_Bw_start_0 : decode b_Bw_start 0 = .ok (.aload_n 0, 1) := by decide +kernel
theorem d_Bw_start_1 : decode b_Bw_start 1 = .ok (.getfield 14, 3) := by decide +kernel
theorem d_Bw_start_4 : decode b_Bw_start 4 = .ok (.iconst 0, 1) := by decide +kernel
theorem d_Bw_start_5 : decode b_Bw_start 5 = .ok (.invokevirtual 26, 3) := by decide +kernel
theorem d_Bw_start_8 : decode b_Bw_start 8 = .ok (.aload_n 0, 1) := by decide +kernel
theorem d_Bw_start_9 : decode b_Bw_start 9 = .ok (.getfield 20, 3) := by decide +kernel
theorem d_Bw_start_12 : decode b_Bw_start 12 = .ok (.iconst 0, 1) := by decide +kernel
theorem d_Bw_start_13 : decode b_Bw_start 13 = .ok (.invokevirtual 26, 3) := by decide +kernel
theorem d_Bw_start_16 : decode b_Bw_start 16 = .ok (.aload_n 0, 1) := by decide +kernel
theorem d_Bw_start_17 : decode b_Bw_start 17 = .ok (.getfield 23, 3) := by decide +kernel
theorem d_Bw_start_20 : decode b_Bw_start 20 = .ok (.iconst 0, 1) := by decide +kernel
theorem d_Bw_start_21 : decode b_Bw_start 21 = .ok (.invokevirtual 26, 3) := by decide +kernel
theorem d_Bw_start_24 : decode b_Bw_start 24 = .ok (.return_, 1) := by decide +kernel
theorem d_Bw_addLetter_0 : decode b_Bw_addLetter 0 = .ok (.aload_n 0, 1) := by decide +kernel
theorem d_Bw_addLetter_1 : decode b_Bw_addLetter 1 = .ok (.getfield 14, 3) := by decide +kernel
theorem d_Bw_addLetter_4 : decode b_Bw_addLetter 4 = .ok (.iload_n 1, 1) := by decide +kernel
theorem d_Bw_addLetter_5 : decode b_Bw_addLetter 5 = .ok (.invokevirtual 29, 3) := by decide +kernel
theorem d_Bw_addLetter_8 : decode b_Bw_addLetter 8 = .ok (.aload_n 0, 1) := by decide +kernel
theorem d_Bw_addLetter_9 : decode b_Bw_addLetter 9 = .ok (.getfield 20, 3) := by decide +kernel
theorem d_Bw_addLetter_12 : decode b_Bw_addLetter 12 = .ok (.iconst 0, 1) := by decide +kernel
theorem d_Bw_addLetter_13 : decode b_Bw_addLetter 13 = .ok (.invokevirtual 29, 3) := by decide +kernel
theorem d_Bw_addLetter_16 : decode b_Bw_addLetter 16 = .ok (.return_, 1) := by decide +kernel
theorem d_Bw_findPlaces_0 : decode b_Bw_findPlaces 0 = .ok (.aload_n 0, 1) := by decide +kernel
theorem d_Bw_findPlaces_1 : decode b_Bw_findPlaces 1 = .ok (.getfield 14, 3) := by decide +kernel
theorem d_Bw_findPlaces_4 : decode b_Bw_findPlaces 4 = .ok (.getfield 32, 3) := by decide +kernel
theorem d_Bw_findPlaces_7 : decode b_Bw_findPlaces 7 = .ok (.iload_n 2, 1) := by decide +kernel
theorem d_Bw_findPlaces_8 : decode b_Bw_findPlaces 8 = .ok (.isub, 1) := by decide +kernel
theorem d_Bw_findPlaces_9 : decode b_Bw_findPlaces 9 = .ok (.istore_n 3, 1) := by decide +kernel
theorem d_Bw_findPlaces_10 : decode b_Bw_findPlaces 10 = .ok (.iload_n 1, 1) := by decide +kernel
theorem d_Bw_findPlaces_11 : decode b_Bw_findPlaces 11 = .ok (.istore 4, 2) := by decide +kernel
theorem d_Bw_findPlaces_13 : decode b_Bw_findPlaces 13 = .ok (.iload 4, 2) := by decide +kernel
theorem d_Bw_findPlaces_15 : decode b_Bw_findPlaces 15 = .ok (.iload_n 3, 1) := by decide +kernel
theorem d_Bw_findPlaces_16 : decode b_Bw_findPlaces 16 = .ok (.if_icmp .gt 33, 3) := by decide +kernel
theorem d_Bw_findPlaces_19 : decode b_Bw_findPlaces 19 = .ok (.aload_n 0, 1) := by decide +kernel
theorem d_Bw_findPlaces_20 : decode b_Bw_findPlaces 20 = .ok (.getfield 20, 3) := by decide +kernel
theorem d_Bw_findPlaces_23 : decode b_Bw_findPlaces 23 = .ok (.iload 4, 2) := by decide +kernel
theorem d_Bw_findPlaces_25 : decode b_Bw_findPlaces 25 = .ok (.invokevirtual 36, 3) := by decide +kernel
theorem d_Bw_findPlaces_28 : decode b_Bw_findPlaces 28 = .ok (.iconst 1, 1) := by decide +kernel
theorem d_Bw_findPlaces_29 : decode b_Bw_findPlaces 29 = .ok (.iand, 1) := by decide +kernel
theorem d_Bw_findPlaces_30 : decode b_Bw_findPlaces 30 = .ok (.iconst 1, 1) := by decide +kernel
theorem d_Bw_findPlaces_31 : decode b_Bw_findPlaces 31 = .ok (.if_icmp .ne 12, 3) := by decide +kernel
theorem d_Bw_findPlaces_34 : decode b_Bw_findPlaces 34 = .ok (.aload_n 0, 1) := by decide +kernel
theorem d_Bw_findPlaces_35 : decode b_Bw_findPlaces 35 = .ok (.getfield 23, 3) := by decide +kernel
theorem d_Bw_findPlaces_38 : decode b_Bw_findPlaces 38 = .ok (.iload 4, 2) := by decide +kernel
theorem d_Bw_findPlaces_40 : decode b_Bw_findPlaces 40 = .ok (.invokevirtual 29, 3) := by decide +kernel
theorem d_Bw_findPlaces_43 : decode b_Bw_findPlaces 43 = .ok (.iinc 4 1, 3) := by decide +kernel
theorem d_Bw_findPlaces_46 : decode b_Bw_findPlaces 46 = .ok (.goto (-33), 3) := by decide +kernel
theorem d_Bw_findPlaces_49 : decode b_Bw_findPlaces 49 = .ok (.return_, 1) := by decide +kernel
