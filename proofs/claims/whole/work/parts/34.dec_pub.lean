theorem d_type_0 : decode b_type 0 = .ok (.iload_n 3, 1) := by decide +kernel
theorem d_type_1 : decode b_type 1 = .ok (.iconst 1, 1) := by decide +kernel
theorem d_type_2 : decode b_type 2 = .ok (.if_icmp .lt 32, 3) := by decide +kernel
theorem d_type_5 : decode b_type 5 = .ok (.iload_n 3, 1) := by decide +kernel
theorem d_type_6 : decode b_type 6 = .ok (.bipush 8, 2) := by decide +kernel
theorem d_type_8 : decode b_type 8 = .ok (.if_icmp .gt 26, 3) := by decide +kernel
theorem d_type_11 : decode b_type 11 = .ok (.aload_n 0, 1) := by decide +kernel
theorem d_type_12 : decode b_type 12 = .ok (.getfield 22, 3) := by decide +kernel
theorem d_type_15 : decode b_type 15 = .ok (.getfield 62, 3) := by decide +kernel
theorem d_type_18 : decode b_type 18 = .ok (.sipush 4000, 3) := by decide +kernel
theorem d_type_21 : decode b_type 21 = .ok (.iload_n 3, 1) := by decide +kernel
theorem d_type_22 : decode b_type 22 = .ok (.isub, 1) := by decide +kernel
theorem d_type_23 : decode b_type 23 = .ok (.if_icmp .gt 11, 3) := by decide +kernel
theorem d_type_26 : decode b_type 26 = .ok (.lload_n 1, 1) := by decide +kernel
theorem d_type_27 : decode b_type 27 = .ok (.iload_n 3, 1) := by decide +kernel
theorem d_type_28 : decode b_type 28 = .ok (.invokestatic 65, 3) := by decide +kernel
theorem d_type_31 : decode b_type 31 = .ok (.ifCond .eq 5, 3) := by decide +kernel
theorem d_type_34 : decode b_type 34 = .ok (.iconst 0, 1) := by decide +kernel
theorem d_type_35 : decode b_type 35 = .ok (.ireturn, 1) := by decide +kernel
theorem d_type_36 : decode b_type 36 = .ok (.iconst 0, 1) := by decide +kernel
theorem d_type_37 : decode b_type 37 = .ok (.istore 4, 2) := by decide +kernel
theorem d_type_39 : decode b_type 39 = .ok (.iload 4, 2) := by decide +kernel
theorem d_type_41 : decode b_type 41 = .ok (.iload_n 3, 1) := by decide +kernel
theorem d_type_42 : decode b_type 42 = .ok (.if_icmp .ge 22, 3) := by decide +kernel
theorem d_type_45 : decode b_type 45 = .ok (.aload_n 0, 1) := by decide +kernel
theorem d_type_46 : decode b_type 46 = .ok (.getfield 22, 3) := by decide +kernel
theorem d_type_49 : decode b_type 49 = .ok (.lload_n 1, 1) := by decide +kernel
theorem d_type_50 : decode b_type 50 = .ok (.iload 4, 2) := by decide +kernel
theorem d_type_52 : decode b_type 52 = .ok (.invokestatic 69, 3) := by decide +kernel
theorem d_type_55 : decode b_type 55 = .ok (.invokevirtual 73, 3) := by decide +kernel
theorem d_type_58 : decode b_type 58 = .ok (.iinc 4 1, 3) := by decide +kernel
theorem d_type_61 : decode b_type 61 = .ok (.goto (-22), 3) := by decide +kernel
theorem d_type_64 : decode b_type 64 = .ok (.iconst 1, 1) := by decide +kernel
theorem d_type_65 : decode b_type 65 = .ok (.ireturn, 1) := by decide +kernel
theorem d_letter_0 : decode b_letter 0 = .ok (.iload_n 1, 1) := by decide +kernel
theorem d_letter_1 : decode b_letter 1 = .ok (.iconst 1, 1) := by decide +kernel
theorem d_letter_2 : decode b_letter 2 = .ok (.if_icmp .lt 17, 3) := by decide +kernel
theorem d_letter_5 : decode b_letter 5 = .ok (.iload_n 1, 1) := by decide +kernel
theorem d_letter_6 : decode b_letter 6 = .ok (.sipush 256, 3) := by decide +kernel
theorem d_letter_9 : decode b_letter 9 = .ok (.if_icmp .ge 10, 3) := by decide +kernel
theorem d_letter_12 : decode b_letter 12 = .ok (.iload_n 1, 1) := by decide +kernel
theorem d_letter_13 : decode b_letter 13 = .ok (.invokestatic 76, 3) := by decide +kernel
theorem d_letter_16 : decode b_letter 16 = .ok (.ifCond .eq 5, 3) := by decide +kernel
theorem d_letter_19 : decode b_letter 19 = .ok (.iconst 0, 1) := by decide +kernel
theorem d_letter_20 : decode b_letter 20 = .ok (.ireturn, 1) := by decide +kernel
theorem d_letter_21 : decode b_letter 21 = .ok (.iload_n 2, 1) := by decide +kernel
theorem d_letter_22 : decode b_letter 22 = .ok (.ifCond .lt 9, 3) := by decide +kernel
theorem d_letter_25 : decode b_letter 25 = .ok (.iload_n 2, 1) := by decide +kernel
theorem d_letter_26 : decode b_letter 26 = .ok (.bipush 63, 2) := by decide +kernel
theorem d_letter_28 : decode b_letter 28 = .ok (.if_icmp .le 5, 3) := by decide +kernel
theorem d_letter_31 : decode b_letter 31 = .ok (.iconst 0, 1) := by decide +kernel
theorem d_letter_32 : decode b_letter 32 = .ok (.ireturn, 1) := by decide +kernel
theorem d_letter_33 : decode b_letter 33 = .ok (.aload_n 0, 1) := by decide +kernel
theorem d_letter_34 : decode b_letter 34 = .ok (.getfield 13, 3) := by decide +kernel
theorem d_letter_37 : decode b_letter 37 = .ok (.iload_n 1, 1) := by decide +kernel
theorem d_letter_38 : decode b_letter 38 = .ok (.iload_n 2, 1) := by decide +kernel
theorem d_letter_39 : decode b_letter 39 = .ok (.invokevirtual 80, 3) := by decide +kernel
theorem d_letter_42 : decode b_letter 42 = .ok (.iconst 1, 1) := by decide +kernel
theorem d_letter_43 : decode b_letter 43 = .ok (.ireturn, 1) := by decide +kernel
theorem d_least_0 : decode b_least 0 = .ok (.iload_n 1, 1) := by decide +kernel
theorem d_least_1 : decode b_least 1 = .ok (.iconst 1, 1) := by decide +kernel
theorem d_least_2 : decode b_least 2 = .ok (.if_icmp .lt 20, 3) := by decide +kernel
theorem d_least_5 : decode b_least 5 = .ok (.iload_n 1, 1) := by decide +kernel
theorem d_least_6 : decode b_least 6 = .ok (.bipush 63, 2) := by decide +kernel
theorem d_least_8 : decode b_least 8 = .ok (.if_icmp .gt 14, 3) := by decide +kernel
theorem d_least_11 : decode b_least 11 = .ok (.iload_n 2, 1) := by decide +kernel
theorem d_least_12 : decode b_least 12 = .ok (.iconst 1, 1) := by decide +kernel
theorem d_least_13 : decode b_least 13 = .ok (.if_icmp .lt 9, 3) := by decide +kernel
theorem d_least_16 : decode b_least 16 = .ok (.iload_n 2, 1) := by decide +kernel
theorem d_least_17 : decode b_least 17 = .ok (.bipush 63, 2) := by decide +kernel
theorem d_least_19 : decode b_least 19 = .ok (.if_icmp .le 5, 3) := by decide +kernel
theorem d_least_22 : decode b_least 22 = .ok (.iconst 0, 1) := by decide +kernel
theorem d_least_23 : decode b_least 23 = .ok (.ireturn, 1) := by decide +kernel
theorem d_least_24 : decode b_least 24 = .ok (.aload_n 0, 1) := by decide +kernel
theorem d_least_25 : decode b_least 25 = .ok (.iload_n 1, 1) := by decide +kernel
theorem d_least_26 : decode b_least 26 = .ok (.putfield 55, 3) := by decide +kernel
theorem d_least_29 : decode b_least 29 = .ok (.aload_n 0, 1) := by decide +kernel
theorem d_least_30 : decode b_least 30 = .ok (.iload_n 2, 1) := by decide +kernel
theorem d_least_31 : decode b_least 31 = .ok (.putfield 59, 3) := by decide +kernel
theorem d_least_34 : decode b_least 34 = .ok (.iconst 1, 1) := by decide +kernel
theorem d_least_35 : decode b_least 35 = .ok (.ireturn, 1) := by decide +kernel
theorem d_patterns_0 : decode b_patterns 0 = .ok (.aload_n 0, 1) := by decide +kernel
theorem d_patterns_1 : decode b_patterns 1 = .ok (.aload_n 0, 1) := by decide +kernel
theorem d_patterns_2 : decode b_patterns 2 = .ok (.getfield 31, 3) := by decide +kernel
theorem d_patterns_5 : decode b_patterns 5 = .ok (.iconst 0, 1) := by decide +kernel
theorem d_patterns_6 : decode b_patterns 6 = .ok (.invokevirtual 84, 3) := by decide +kernel
theorem d_patterns_9 : decode b_patterns 9 = .ok (.istore_n 1, 1) := by decide +kernel
theorem d_patterns_10 : decode b_patterns 10 = .ok (.aload_n 0, 1) := by decide +kernel
theorem d_patterns_11 : decode b_patterns 11 = .ok (.getfield 22, 3) := by decide +kernel
theorem d_patterns_14 : decode b_patterns 14 = .ok (.iconst 0, 1) := by decide +kernel
theorem d_patterns_15 : decode b_patterns 15 = .ok (.invokevirtual 88, 3) := by decide +kernel
theorem d_patterns_18 : decode b_patterns 18 = .ok (.iload_n 1, 1) := by decide +kernel
theorem d_patterns_19 : decode b_patterns 19 = .ok (.ireturn, 1) := by decide +kernel
theorem d_words_0 : decode b_words 0 = .ok (.aload_n 0, 1) := by decide +kernel
theorem d_words_1 : decode b_words 1 = .ok (.aload_n 0, 1) := by decide +kernel
theorem d_words_2 : decode b_words 2 = .ok (.getfield 35, 3) := by decide +kernel
theorem d_words_5 : decode b_words 5 = .ok (.iconst 1, 1) := by decide +kernel
theorem d_words_6 : decode b_words 6 = .ok (.invokevirtual 84, 3) := by decide +kernel
theorem d_words_9 : decode b_words 9 = .ok (.istore_n 1, 1) := by decide +kernel
theorem d_words_10 : decode b_words 10 = .ok (.iload_n 1, 1) := by decide +kernel
theorem d_words_11 : decode b_words 11 = .ok (.ifCond .le 7, 3) := by decide +kernel
theorem d_words_14 : decode b_words 14 = .ok (.aload_n 0, 1) := by decide +kernel
theorem d_words_15 : decode b_words 15 = .ok (.invokevirtual 91, 3) := by decide +kernel
theorem d_words_18 : decode b_words 18 = .ok (.aload_n 0, 1) := by decide +kernel
theorem d_words_19 : decode b_words 19 = .ok (.getfield 22, 3) := by decide +kernel
theorem d_words_22 : decode b_words 22 = .ok (.iconst 0, 1) := by decide +kernel
theorem d_words_23 : decode b_words 23 = .ok (.invokevirtual 88, 3) := by decide +kernel
theorem d_words_26 : decode b_words 26 = .ok (.iload_n 1, 1) := by decide +kernel
theorem d_words_27 : decode b_words 27 = .ok (.ireturn, 1) := by decide +kernel
theorem d_clear_0 : decode b_clear 0 = .ok (.iload_n 1, 1) := by decide +kernel
theorem d_clear_1 : decode b_clear 1 = .ok (.ifCond .eq 10, 3) := by decide +kernel
theorem d_clear_4 : decode b_clear 4 = .ok (.aload_n 0, 1) := by decide +kernel
theorem d_clear_5 : decode b_clear 5 = .ok (.getfield 35, 3) := by decide +kernel
theorem d_clear_8 : decode b_clear 8 = .ok (.goto 7, 3) := by decide +kernel
theorem d_clear_11 : decode b_clear 11 = .ok (.aload_n 0, 1) := by decide +kernel
theorem d_clear_12 : decode b_clear 12 = .ok (.getfield 31, 3) := by decide +kernel
theorem d_clear_15 : decode b_clear 15 = .ok (.astore_n 2, 1) := by decide +kernel
theorem d_clear_16 : decode b_clear 16 = .ok (.aload_n 2, 1) := by decide +kernel
theorem d_clear_17 : decode b_clear 17 = .ok (.getfield 94, 3) := by decide +kernel
theorem d_clear_20 : decode b_clear 20 = .ok (.istore_n 3, 1) := by decide +kernel
theorem d_clear_21 : decode b_clear 21 = .ok (.aload_n 2, 1) := by decide +kernel
theorem d_clear_22 : decode b_clear 22 = .ok (.iconst 0, 1) := by decide +kernel
theorem d_clear_23 : decode b_clear 23 = .ok (.invokevirtual 97, 3) := by decide +kernel
theorem d_clear_26 : decode b_clear 26 = .ok (.iload_n 3, 1) := by decide +kernel
theorem d_clear_27 : decode b_clear 27 = .ok (.ireturn, 1) := by decide +kernel
theorem d_count_0 : decode b_count 0 = .ok (.iload_n 1, 1) := by decide +kernel
theorem d_count_1 : decode b_count 1 = .ok (.ifCond .eq 13, 3) := by decide +kernel
theorem d_count_4 : decode b_count 4 = .ok (.aload_n 0, 1) := by decide +kernel
theorem d_count_5 : decode b_count 5 = .ok (.getfield 35, 3) := by decide +kernel
theorem d_count_8 : decode b_count 8 = .ok (.getfield 94, 3) := by decide +kernel
theorem d_count_11 : decode b_count 11 = .ok (.goto 10, 3) := by decide +kernel
theorem d_count_14 : decode b_count 14 = .ok (.aload_n 0, 1) := by decide +kernel
theorem d_count_15 : decode b_count 15 = .ok (.getfield 31, 3) := by decide +kernel
theorem d_count_18 : decode b_count 18 = .ok (.getfield 94, 3) := by decide +kernel
theorem d_count_21 : decode b_count 21 = .ok (.ireturn, 1) := by decide +kernel
theorem d_word_0 : decode b_word 0 = .ok (.aload_n 0, 1) := by decide +kernel
theorem d_word_1 : decode b_word 1 = .ok (.invokevirtual 100, 3) := by decide +kernel
theorem d_word_4 : decode b_word 4 = .ok (.istore_n 1, 1) := by decide +kernel
theorem d_word_5 : decode b_word 5 = .ok (.aload_n 0, 1) := by decide +kernel
theorem d_word_6 : decode b_word 6 = .ok (.getfield 22, 3) := by decide +kernel
theorem d_word_9 : decode b_word 9 = .ok (.iconst 0, 1) := by decide +kernel
theorem d_word_10 : decode b_word 10 = .ok (.invokevirtual 88, 3) := by decide +kernel
theorem d_word_13 : decode b_word 13 = .ok (.iload_n 1, 1) := by decide +kernel
theorem d_word_14 : decode b_word 14 = .ok (.ireturn, 1) := by decide +kernel
theorem d_place_0 : decode b_place 0 = .ok (.aload_n 0, 1) := by decide +kernel
theorem d_place_1 : decode b_place 1 = .ok (.getfield 48, 3) := by decide +kernel
theorem d_place_4 : decode b_place 4 = .ok (.getfield 104, 3) := by decide +kernel
theorem d_place_7 : decode b_place 7 = .ok (.iload_n 1, 1) := by decide +kernel
theorem d_place_8 : decode b_place 8 = .ok (.invokevirtual 107, 3) := by decide +kernel
theorem d_place_11 : decode b_place 11 = .ok (.ireturn, 1) := by decide +kernel
theorem d_value_0 : decode b_value 0 = .ok (.iload_n 1, 1) := by decide +kernel
theorem d_value_1 : decode b_value 1 = .ok (.iconst 1, 1) := by decide +kernel
theorem d_value_2 : decode b_value 2 = .ok (.if_icmp .ge 7, 3) := by decide +kernel
theorem d_value_5 : decode b_value 5 = .ok (.iconst (-1), 1) := by decide +kernel
theorem d_value_6 : decode b_value 6 = .ok (.goto 14, 3) := by decide +kernel
theorem d_value_9 : decode b_value 9 = .ok (.aload_n 0, 1) := by decide +kernel
theorem d_value_10 : decode b_value 10 = .ok (.getfield 48, 3) := by decide +kernel
theorem d_value_13 : decode b_value 13 = .ok (.getfield 111, 3) := by decide +kernel
theorem d_value_16 : decode b_value 16 = .ok (.iload_n 1, 1) := by decide +kernel
theorem d_value_17 : decode b_value 17 = .ok (.invokevirtual 107, 3) := by decide +kernel
theorem d_value_20 : decode b_value 20 = .ok (.ireturn, 1) := by decide +kernel
theorem d_text_0 : decode b_text 0 = .ok (.aload_n 0, 1) := by decide +kernel
theorem d_text_1 : decode b_text 1 = .ok (.getfield 25, 3) := by decide +kernel
theorem d_text_4 : decode b_text 4 = .ok (.iconst 0, 1) := by decide +kernel
theorem d_text_5 : decode b_text 5 = .ok (.invokevirtual 88, 3) := by decide +kernel
theorem d_text_8 : decode b_text 8 = .ok (.iconst 0, 1) := by decide +kernel
theorem d_text_9 : decode b_text 9 = .ok (.istore_n 1, 1) := by decide +kernel
theorem d_text_10 : decode b_text 10 = .ok (.aload_n 0, 1) := by decide +kernel
theorem d_text_11 : decode b_text 11 = .ok (.getfield 22, 3) := by decide +kernel
theorem d_text_14 : decode b_text 14 = .ok (.getfield 62, 3) := by decide +kernel
theorem d_text_17 : decode b_text 17 = .ok (.istore_n 2, 1) := by decide +kernel
theorem d_text_18 : decode b_text 18 = .ok (.iconst 0, 1) := by decide +kernel
theorem d_text_19 : decode b_text 19 = .ok (.istore_n 3, 1) := by decide +kernel
theorem d_text_20 : decode b_text 20 = .ok (.iload_n 3, 1) := by decide +kernel
theorem d_text_21 : decode b_text 21 = .ok (.iload_n 2, 1) := by decide +kernel
theorem d_text_22 : decode b_text 22 = .ok (.if_icmp .ge 57, 3) := by decide +kernel
theorem d_text_25 : decode b_text 25 = .ok (.aload_n 0, 1) := by decide +kernel
theorem d_text_26 : decode b_text 26 = .ok (.iload_n 3, 1) := by decide +kernel
theorem d_text_27 : decode b_text 27 = .ok (.invokevirtual 114, 3) := by decide +kernel
theorem d_text_30 : decode b_text 30 = .ok (.ifCond .ne 21, 3) := by decide +kernel
theorem d_text_33 : decode b_text 33 = .ok (.aload_n 0, 1) := by decide +kernel
theorem d_text_34 : decode b_text 34 = .ok (.getfield 25, 3) := by decide +kernel
theorem d_text_37 : decode b_text 37 = .ok (.aload_n 0, 1) := by decide +kernel
theorem d_text_38 : decode b_text 38 = .ok (.getfield 22, 3) := by decide +kernel
theorem d_text_41 : decode b_text 41 = .ok (.iload_n 3, 1) := by decide +kernel
theorem d_text_42 : decode b_text 42 = .ok (.invokevirtual 107, 3) := by decide +kernel
theorem d_text_45 : decode b_text 45 = .ok (.invokevirtual 73, 3) := by decide +kernel
theorem d_text_48 : decode b_text 48 = .ok (.goto 25, 3) := by decide +kernel
theorem d_text_51 : decode b_text 51 = .ok (.iload_n 3, 1) := by decide +kernel
theorem d_text_52 : decode b_text 52 = .ok (.ifCond .eq 13, 3) := by decide +kernel
theorem d_text_55 : decode b_text 55 = .ok (.aload_n 0, 1) := by decide +kernel
theorem d_text_56 : decode b_text 56 = .ok (.iload_n 3, 1) := by decide +kernel
theorem d_text_57 : decode b_text 57 = .ok (.iconst 1, 1) := by decide +kernel
theorem d_text_58 : decode b_text 58 = .ok (.isub, 1) := by decide +kernel
theorem d_text_59 : decode b_text 59 = .ok (.invokevirtual 114, 3) := by decide +kernel
theorem d_text_62 : decode b_text 62 = .ok (.ifCond .ne 11, 3) := by decide +kernel
theorem d_text_65 : decode b_text 65 = .ok (.iload_n 1, 1) := by decide +kernel
theorem d_text_66 : decode b_text 66 = .ok (.aload_n 0, 1) := by decide +kernel
theorem d_text_67 : decode b_text 67 = .ok (.iload_n 3, 1) := by decide +kernel
theorem d_text_68 : decode b_text 68 = .ok (.invokevirtual 117, 3) := by decide +kernel
theorem d_text_71 : decode b_text 71 = .ok (.iadd, 1) := by decide +kernel
theorem d_text_72 : decode b_text 72 = .ok (.istore_n 1, 1) := by decide +kernel
theorem d_text_73 : decode b_text 73 = .ok (.iinc 3 1, 3) := by decide +kernel
theorem d_text_76 : decode b_text 76 = .ok (.goto (-56), 3) := by decide +kernel
theorem d_text_79 : decode b_text 79 = .ok (.aload_n 0, 1) := by decide +kernel
theorem d_text_80 : decode b_text 80 = .ok (.getfield 22, 3) := by decide +kernel
theorem d_text_83 : decode b_text 83 = .ok (.iconst 0, 1) := by decide +kernel
theorem d_text_84 : decode b_text 84 = .ok (.invokevirtual 88, 3) := by decide +kernel
theorem d_text_87 : decode b_text 87 = .ok (.iload_n 1, 1) := by decide +kernel
theorem d_text_88 : decode b_text 88 = .ok (.ireturn, 1) := by decide +kernel
theorem d_size_0 : decode b_size 0 = .ok (.aload_n 0, 1) := by decide +kernel
theorem d_size_1 : decode b_size 1 = .ok (.getfield 25, 3) := by decide +kernel
theorem d_size_4 : decode b_size 4 = .ok (.getfield 62, 3) := by decide +kernel
theorem d_size_7 : decode b_size 7 = .ok (.ireturn, 1) := by decide +kernel
theorem d_out_0 : decode b_out 0 = .ok (.aload_n 0, 1) := by decide +kernel
theorem d_out_1 : decode b_out 1 = .ok (.getfield 25, 3) := by decide +kernel
theorem d_out_4 : decode b_out 4 = .ok (.iload_n 1, 1) := by decide +kernel
theorem d_out_5 : decode b_out 5 = .ok (.invokevirtual 107, 3) := by decide +kernel
theorem d_out_8 : decode b_out 8 = .ok (.ireturn, 1) := by decide +kernel
