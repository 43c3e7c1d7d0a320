theorem d_Row_get_0 : decode b_Row_get 0 = .ok (.iload_n 1, 1) := by decide +kernel
theorem d_Row_get_1 : decode b_Row_get 1 = .ok (.ifCond .lt 20, 3) := by decide +kernel
theorem d_Row_get_4 : decode b_Row_get 4 = .ok (.iload_n 1, 1) := by decide +kernel
theorem d_Row_get_5 : decode b_Row_get 5 = .ok (.aload_n 0, 1) := by decide +kernel
theorem d_Row_get_6 : decode b_Row_get 6 = .ok (.getfield 19, 3) := by decide +kernel
theorem d_Row_get_9 : decode b_Row_get 9 = .ok (.if_icmp .ge 12, 3) := by decide +kernel
theorem d_Row_get_12 : decode b_Row_get 12 = .ok (.aload_n 0, 1) := by decide +kernel
theorem d_Row_get_13 : decode b_Row_get 13 = .ok (.getfield 15, 3) := by decide +kernel
theorem d_Row_get_16 : decode b_Row_get 16 = .ok (.iload_n 1, 1) := by decide +kernel
theorem d_Row_get_17 : decode b_Row_get 17 = .ok (.iaload, 1) := by decide +kernel
theorem d_Row_get_18 : decode b_Row_get 18 = .ok (.goto 4, 3) := by decide +kernel
theorem d_Row_get_21 : decode b_Row_get 21 = .ok (.iconst (-1), 1) := by decide +kernel
theorem d_Row_get_22 : decode b_Row_get 22 = .ok (.ireturn, 1) := by decide +kernel
theorem d_Row_set_0 : decode b_Row_set 0 = .ok (.iload_n 1, 1) := by decide +kernel
theorem d_Row_set_1 : decode b_Row_set 1 = .ok (.ifCond .lt 18, 3) := by decide +kernel
theorem d_Row_set_4 : decode b_Row_set 4 = .ok (.iload_n 1, 1) := by decide +kernel
theorem d_Row_set_5 : decode b_Row_set 5 = .ok (.aload_n 0, 1) := by decide +kernel
theorem d_Row_set_6 : decode b_Row_set 6 = .ok (.getfield 19, 3) := by decide +kernel
theorem d_Row_set_9 : decode b_Row_set 9 = .ok (.if_icmp .ge 10, 3) := by decide +kernel
theorem d_Row_set_12 : decode b_Row_set 12 = .ok (.aload_n 0, 1) := by decide +kernel
theorem d_Row_set_13 : decode b_Row_set 13 = .ok (.getfield 15, 3) := by decide +kernel
theorem d_Row_set_16 : decode b_Row_set 16 = .ok (.iload_n 1, 1) := by decide +kernel
theorem d_Row_set_17 : decode b_Row_set 17 = .ok (.iload_n 2, 1) := by decide +kernel
theorem d_Row_set_18 : decode b_Row_set 18 = .ok (.iastore, 1) := by decide +kernel
theorem d_Row_set_19 : decode b_Row_set 19 = .ok (.return_, 1) := by decide +kernel
theorem d_Row_cut_0 : decode b_Row_cut 0 = .ok (.iload_n 1, 1) := by decide +kernel
theorem d_Row_cut_1 : decode b_Row_cut 1 = .ok (.ifCond .lt 16, 3) := by decide +kernel
theorem d_Row_cut_4 : decode b_Row_cut 4 = .ok (.iload_n 1, 1) := by decide +kernel
theorem d_Row_cut_5 : decode b_Row_cut 5 = .ok (.aload_n 0, 1) := by decide +kernel
theorem d_Row_cut_6 : decode b_Row_cut 6 = .ok (.getfield 19, 3) := by decide +kernel
theorem d_Row_cut_9 : decode b_Row_cut 9 = .ok (.if_icmp .ge 8, 3) := by decide +kernel
theorem d_Row_cut_12 : decode b_Row_cut 12 = .ok (.aload_n 0, 1) := by decide +kernel
theorem d_Row_cut_13 : decode b_Row_cut 13 = .ok (.iload_n 1, 1) := by decide +kernel
theorem d_Row_cut_14 : decode b_Row_cut 14 = .ok (.putfield 19, 3) := by decide +kernel
theorem d_Row_cut_17 : decode b_Row_cut 17 = .ok (.return_, 1) := by decide +kernel
theorem d_Row_add_0 : decode b_Row_add 0 = .ok (.aload_n 0, 1) := by decide +kernel
theorem d_Row_add_1 : decode b_Row_add 1 = .ok (.getfield 19, 3) := by decide +kernel
theorem d_Row_add_4 : decode b_Row_add 4 = .ok (.aload_n 0, 1) := by decide +kernel
theorem d_Row_add_5 : decode b_Row_add 5 = .ok (.getfield 9, 3) := by decide +kernel
theorem d_Row_add_8 : decode b_Row_add 8 = .ok (.if_icmp .lt 4, 3) := by decide +kernel
theorem d_Row_add_11 : decode b_Row_add 11 = .ok (.return_, 1) := by decide +kernel
theorem d_Row_add_12 : decode b_Row_add 12 = .ok (.aload_n 0, 1) := by decide +kernel
theorem d_Row_add_13 : decode b_Row_add 13 = .ok (.getfield 19, 3) := by decide +kernel
theorem d_Row_add_16 : decode b_Row_add 16 = .ok (.aload_n 0, 1) := by decide +kernel
theorem d_Row_add_17 : decode b_Row_add 17 = .ok (.getfield 15, 3) := by decide +kernel
theorem d_Row_add_20 : decode b_Row_add 20 = .ok (.arraylength, 1) := by decide +kernel
theorem d_Row_add_21 : decode b_Row_add 21 = .ok (.if_icmp .lt 28, 3) := by decide +kernel
theorem d_Row_add_24 : decode b_Row_add 24 = .ok (.aload_n 0, 1) := by decide +kernel
theorem d_Row_add_25 : decode b_Row_add 25 = .ok (.aload_n 0, 1) := by decide +kernel
theorem d_Row_add_26 : decode b_Row_add 26 = .ok (.getfield 15, 3) := by decide +kernel
theorem d_Row_add_29 : decode b_Row_add 29 = .ok (.aload_n 0, 1) := by decide +kernel
theorem d_Row_add_30 : decode b_Row_add 30 = .ok (.getfield 9, 3) := by decide +kernel
theorem d_Row_add_33 : decode b_Row_add 33 = .ok (.iconst 2, 1) := by decide +kernel
theorem d_Row_add_34 : decode b_Row_add 34 = .ok (.aload_n 0, 1) := by decide +kernel
theorem d_Row_add_35 : decode b_Row_add 35 = .ok (.getfield 15, 3) := by decide +kernel
theorem d_Row_add_38 : decode b_Row_add 38 = .ok (.arraylength, 1) := by decide +kernel
theorem d_Row_add_39 : decode b_Row_add 39 = .ok (.imul, 1) := by decide +kernel
theorem d_Row_add_40 : decode b_Row_add 40 = .ok (.invokestatic 22, 3) := by decide +kernel
theorem d_Row_add_43 : decode b_Row_add 43 = .ok (.invokestatic 28, 3) := by decide +kernel
theorem d_Row_add_46 : decode b_Row_add 46 = .ok (.putfield 15, 3) := by decide +kernel
theorem d_Row_add_49 : decode b_Row_add 49 = .ok (.aload_n 0, 1) := by decide +kernel
theorem d_Row_add_50 : decode b_Row_add 50 = .ok (.getfield 15, 3) := by decide +kernel
theorem d_Row_add_53 : decode b_Row_add 53 = .ok (.aload_n 0, 1) := by decide +kernel
theorem d_Row_add_54 : decode b_Row_add 54 = .ok (.getfield 19, 3) := by decide +kernel
theorem d_Row_add_57 : decode b_Row_add 57 = .ok (.iload_n 1, 1) := by decide +kernel
theorem d_Row_add_58 : decode b_Row_add 58 = .ok (.iastore, 1) := by decide +kernel
theorem d_Row_add_59 : decode b_Row_add 59 = .ok (.aload_n 0, 1) := by decide +kernel
theorem d_Row_add_60 : decode b_Row_add 60 = .ok (.dup, 1) := by decide +kernel
theorem d_Row_add_61 : decode b_Row_add 61 = .ok (.getfield 19, 3) := by decide +kernel
theorem d_Row_add_64 : decode b_Row_add 64 = .ok (.iconst 1, 1) := by decide +kernel
theorem d_Row_add_65 : decode b_Row_add 65 = .ok (.iadd, 1) := by decide +kernel
theorem d_Row_add_66 : decode b_Row_add 66 = .ok (.putfield 19, 3) := by decide +kernel
theorem d_Row_add_69 : decode b_Row_add 69 = .ok (.return_, 1) := by decide +kernel
theorem d_Row_init_0 : decode b_Row_init 0 = .ok (.aload_n 0, 1) := by decide +kernel
theorem d_Row_init_1 : decode b_Row_init 1 = .ok (.invokespecial 3, 3) := by decide +kernel
theorem d_Row_init_4 : decode b_Row_init 4 = .ok (.aload_n 0, 1) := by decide +kernel
theorem d_Row_init_5 : decode b_Row_init 5 = .ok (.iload_n 1, 1) := by decide +kernel
theorem d_Row_init_6 : decode b_Row_init 6 = .ok (.putfield 9, 3) := by decide +kernel
theorem d_Row_init_9 : decode b_Row_init 9 = .ok (.aload_n 0, 1) := by decide +kernel
theorem d_Row_init_10 : decode b_Row_init 10 = .ok (.bipush 16, 2) := by decide +kernel
theorem d_Row_init_12 : decode b_Row_init 12 = .ok (.newarray .int, 2) := by decide +kernel
theorem d_Row_init_14 : decode b_Row_init 14 = .ok (.putfield 15, 3) := by decide +kernel
theorem d_Row_init_17 : decode b_Row_init 17 = .ok (.aload_n 0, 1) := by decide +kernel
theorem d_Row_init_18 : decode b_Row_init 18 = .ok (.iconst 0, 1) := by decide +kernel
theorem d_Row_init_19 : decode b_Row_init 19 = .ok (.putfield 19, 3) := by decide +kernel
theorem d_Row_init_22 : decode b_Row_init 22 = .ok (.return_, 1) := by decide +kernel
theorem d_copyOf_0 : decode b_copyOf 0 = .ok (.iload_n 1, 1) := by decide +kernel
theorem d_copyOf_1 : decode b_copyOf 1 = .ok (.aload_n 0, 1) := by decide +kernel
theorem d_copyOf_2 : decode b_copyOf 2 = .ok (.arraylength, 1) := by decide +kernel
theorem d_copyOf_3 : decode b_copyOf 3 = .ok (.if_icmp .ne 11, 3) := by decide +kernel
theorem d_copyOf_6 : decode b_copyOf 6 = .ok (.aload_n 0, 1) := by decide +kernel
theorem d_copyOf_7 : decode b_copyOf 7 = .ok (.invokevirtual 316, 3) := by decide +kernel
theorem d_copyOf_10 : decode b_copyOf 10 = .ok (.checkcast 317, 3) := by decide +kernel
theorem d_copyOf_13 : decode b_copyOf 13 = .ok (.areturn, 1) := by decide +kernel
theorem d_copyOf_14 : decode b_copyOf 14 = .ok (.iload_n 1, 1) := by decide +kernel
theorem d_copyOf_15 : decode b_copyOf 15 = .ok (.newarray .int, 2) := by decide +kernel
theorem d_copyOf_17 : decode b_copyOf 17 = .ok (.astore_n 2, 1) := by decide +kernel
theorem d_copyOf_18 : decode b_copyOf 18 = .ok (.aload_n 0, 1) := by decide +kernel
theorem d_copyOf_19 : decode b_copyOf 19 = .ok (.iconst 0, 1) := by decide +kernel
theorem d_copyOf_20 : decode b_copyOf 20 = .ok (.aload_n 2, 1) := by decide +kernel
theorem d_copyOf_21 : decode b_copyOf 21 = .ok (.iconst 0, 1) := by decide +kernel
theorem d_copyOf_22 : decode b_copyOf 22 = .ok (.aload_n 0, 1) := by decide +kernel
theorem d_copyOf_23 : decode b_copyOf 23 = .ok (.arraylength, 1) := by decide +kernel
theorem d_copyOf_24 : decode b_copyOf 24 = .ok (.iload_n 1, 1) := by decide +kernel
theorem d_copyOf_25 : decode b_copyOf 25 = .ok (.invokestatic 304, 3) := by decide +kernel
theorem d_copyOf_28 : decode b_copyOf 28 = .ok (.invokestatic 150, 3) := by decide +kernel
theorem d_copyOf_31 : decode b_copyOf 31 = .ok (.aload_n 2, 1) := by decide +kernel
theorem d_copyOf_32 : decode b_copyOf 32 = .ok (.areturn, 1) := by decide +kernel
