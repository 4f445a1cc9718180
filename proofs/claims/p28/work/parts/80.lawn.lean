theorem dL_cell_0 : decode cL_cell 0 = .ok (.iload_n 1, 1) := by decide +kernel
theorem dL_cell_1 : decode cL_cell 1 = .ok (.aload_n 0, 1) := by decide +kernel
theorem dL_cell_2 : decode cL_cell 2 = .ok (.arraylength, 1) := by decide +kernel
theorem dL_cell_3 : decode cL_cell 3 = .ok (.if_icmp .ge 9, 3) := by decide +kernel
theorem dL_cell_6 : decode cL_cell 6 = .ok (.aload_n 0, 1) := by decide +kernel
theorem dL_cell_7 : decode cL_cell 7 = .ok (.iload_n 1, 1) := by decide +kernel
theorem dL_cell_8 : decode cL_cell 8 = .ok (.iaload, 1) := by decide +kernel
theorem dL_cell_9 : decode cL_cell 9 = .ok (.goto 12, 3) := by decide +kernel
theorem dL_cell_12 : decode cL_cell 12 = .ok (.ldc 7, 2) := by decide +kernel
theorem dL_cell_14 : decode cL_cell 14 = .ok (.iload_n 1, 1) := by decide +kernel
theorem dL_cell_15 : decode cL_cell 15 = .ok (.iconst 1, 1) := by decide +kernel
theorem dL_cell_16 : decode cL_cell 16 = .ok (.iadd, 1) := by decide +kernel
theorem dL_cell_17 : decode cL_cell 17 = .ok (.imul, 1) := by decide +kernel
theorem dL_cell_18 : decode cL_cell 18 = .ok (.ldc 8, 2) := by decide +kernel
theorem dL_cell_20 : decode cL_cell 20 = .ok (.iadd, 1) := by decide +kernel
theorem dL_cell_21 : decode cL_cell 21 = .ok (.ireturn, 1) := by decide +kernel
theorem dL_low_0 : decode cL_low 0 = .ok (.iload_n 0, 1) := by decide +kernel
theorem dL_low_1 : decode cL_low 1 = .ok (.ldc 9, 2) := by decide +kernel
theorem dL_low_3 : decode cL_low 3 = .ok (.iand, 1) := by decide +kernel
theorem dL_low_4 : decode cL_low 4 = .ok (.iload_n 1, 1) := by decide +kernel
theorem dL_low_5 : decode cL_low 5 = .ok (.irem, 1) := by decide +kernel
theorem dL_low_6 : decode cL_low 6 = .ok (.ireturn, 1) := by decide +kernel
set_option maxRecDepth 20000 in
theorem ggL_ask_X4_ask : GoodIn wsL_ask wsX4_ask := goodIn_ca (goodIn_ca (goodIn_ca (goodIn_r _ [8, 9, 10, 11, 12, 13, 14, 15, 7, 16, 17, 18, 19, 20, 21, 22, 23, 24, 25, 26, 27, 28, 29, 30, 31, 32, 33, 34, 35, 36, 37, 38, 39, 40, 41, 42, 43, 44, 45, 46, 47, 48, 49, 50, 51, 52, 53, 54, 55, 56, 57, 58, 59, 60, 61, 62, 63, 64, 65, 66, 67, 68, 69, 70, 71, 72, 73, 74, 75, 76, 77, 78, 79, 80, 81, 82, 83, 84, 85, 86, 87, 88, 89, 90, 91, 92, 93, 94, 95, 96, 97, 98, 99, 100, 101, 102, 103, 104, 105, 106, 107, 108, 109, 110, 111, 112, 113, 114, 115, 116, 117, 118, 119, 120, 121, 122, 123, 124, 125, 126, 127, 128] (by decide +kernel) (by decide +kernel)) (goodIn_sub (fun _ h => List.mem_cons_of_mem _ (List.mem_append_left _ (List.mem_append_left _ (List.mem_append_right _ h)))) (by decide +kernel))) (goodIn_sub (fun _ h => List.mem_cons_of_mem _ (List.mem_append_left _ (List.mem_append_right _ h))) (by decide +kernel))) (goodIn_sub (fun _ h => List.mem_cons_of_mem _ (List.mem_append_right _ h)) (by decide +kernel))
set_option maxRecDepth 20000 in
theorem gL_ask_X4_ask : GoodIn wsL_ask (wsV RL 10 RX4 yX4_ask wsX4_ask) := goodIn_app (goodIn_of _ (by decide +kernel)) ggL_ask_X4_ask
theorem dL_ask_0 : decode cL_ask 0 = .ok (.aload_n 0, 1) := by decide +kernel
theorem dL_ask_1 : decode cL_ask 1 = .ok (.iload_n 1, 1) := by decide +kernel
theorem dL_ask_2 : decode cL_ask 2 = .ok (.iload_n 2, 1) := by decide +kernel
theorem dL_ask_3 : decode cL_ask 3 = .ok (.invokevirtual 10, 3) := by decide +kernel
theorem dL_ask_6 : decode cL_ask 6 = .ok (.ireturn, 1) := by decide +kernel
theorem dL_ask_7 : decode cL_ask 7 = .ok (.astore_n 3, 1) := by decide +kernel
theorem dL_ask_8 : decode cL_ask 8 = .ok (.bipush (-3), 2) := by decide +kernel
theorem dL_ask_10 : decode cL_ask 10 = .ok (.ireturn, 1) := by decide +kernel
theorem dL_ask_11 : decode cL_ask 11 = .ok (.astore_n 3, 1) := by decide +kernel
theorem dL_ask_12 : decode cL_ask 12 = .ok (.bipush (-4), 2) := by decide +kernel
theorem dL_ask_14 : decode cL_ask 14 = .ok (.ireturn, 1) := by decide +kernel
theorem dL_ask_15 : decode cL_ask 15 = .ok (.astore_n 3, 1) := by decide +kernel
theorem dL_ask_16 : decode cL_ask 16 = .ok (.bipush (-5), 2) := by decide +kernel
theorem dL_ask_18 : decode cL_ask 18 = .ok (.ireturn, 1) := by decide +kernel
theorem dL_bits_0 : decode cL_bits 0 = .ok (.iconst 0, 1) := by decide +kernel
theorem dL_bits_1 : decode cL_bits 1 = .ok (.istore_n 1, 1) := by decide +kernel
theorem dL_bits_2 : decode cL_bits 2 = .ok (.iconst 0, 1) := by decide +kernel
theorem dL_bits_3 : decode cL_bits 3 = .ok (.istore_n 2, 1) := by decide +kernel
theorem dL_bits_4 : decode cL_bits 4 = .ok (.iload_n 2, 1) := by decide +kernel
theorem dL_bits_5 : decode cL_bits 5 = .ok (.bipush 10, 2) := by decide +kernel
theorem dL_bits_7 : decode cL_bits 7 = .ok (.if_icmp .ge 17, 3) := by decide +kernel
theorem dL_bits_10 : decode cL_bits 10 = .ok (.iload_n 1, 1) := by decide +kernel
theorem dL_bits_11 : decode cL_bits 11 = .ok (.iload_n 0, 1) := by decide +kernel
theorem dL_bits_12 : decode cL_bits 12 = .ok (.iload_n 2, 1) := by decide +kernel
theorem dL_bits_13 : decode cL_bits 13 = .ok (.ishr, 1) := by decide +kernel
theorem dL_bits_14 : decode cL_bits 14 = .ok (.iconst 1, 1) := by decide +kernel
theorem dL_bits_15 : decode cL_bits 15 = .ok (.iand, 1) := by decide +kernel
theorem dL_bits_16 : decode cL_bits 16 = .ok (.iadd, 1) := by decide +kernel
theorem dL_bits_17 : decode cL_bits 17 = .ok (.istore_n 1, 1) := by decide +kernel
theorem dL_bits_18 : decode cL_bits 18 = .ok (.iinc 2 1, 3) := by decide +kernel
theorem dL_bits_21 : decode cL_bits 21 = .ok (.goto (-17), 3) := by decide +kernel
theorem dL_bits_24 : decode cL_bits 24 = .ok (.iload_n 1, 1) := by decide +kernel
theorem dL_bits_25 : decode cL_bits 25 = .ok (.ireturn, 1) := by decide +kernel
set_option maxRecDepth 20000 in
theorem ggL_in_L_bits : GoodIn wsL_in wsL_bits := goodIn_r _ [4] (by decide +kernel) (by decide +kernel)
set_option maxRecDepth 20000 in
theorem gL_in_L_bits : GoodIn wsL_in (va_wsS RL 22 yL_bits wsL_bits) := goodIn_app (goodIn_of _ (by decide +kernel)) ggL_in_L_bits
theorem dL_in_0 : decode cL_in 0 = .ok (.iload_n 0, 1) := by decide +kernel
theorem dL_in_1 : decode cL_in 1 = .ok (.iload_n 1, 1) := by decide +kernel
theorem dL_in_2 : decode cL_in 2 = .ok (.ishr, 1) := by decide +kernel
theorem dL_in_3 : decode cL_in 3 = .ok (.iconst 1, 1) := by decide +kernel
theorem dL_in_4 : decode cL_in 4 = .ok (.iload_n 2, 1) := by decide +kernel
theorem dL_in_5 : decode cL_in 5 = .ok (.iload_n 1, 1) := by decide +kernel
theorem dL_in_6 : decode cL_in 6 = .ok (.isub, 1) := by decide +kernel
theorem dL_in_7 : decode cL_in 7 = .ok (.iconst 1, 1) := by decide +kernel
theorem dL_in_8 : decode cL_in 8 = .ok (.iadd, 1) := by decide +kernel
theorem dL_in_9 : decode cL_in 9 = .ok (.ishl, 1) := by decide +kernel
theorem dL_in_10 : decode cL_in 10 = .ok (.iconst 1, 1) := by decide +kernel
theorem dL_in_11 : decode cL_in 11 = .ok (.isub, 1) := by decide +kernel
theorem dL_in_12 : decode cL_in 12 = .ok (.iand, 1) := by decide +kernel
theorem dL_in_13 : decode cL_in 13 = .ok (.invokestatic 22, 3) := by decide +kernel
theorem dL_in_16 : decode cL_in 16 = .ok (.ireturn, 1) := by decide +kernel
set_option maxRecDepth 20000 in
theorem ggL_fits_L_in : GoodIn wsL_fits wsL_in := goodIn_r _ [4, 5, 6, 3, 7] (by decide +kernel) (by decide +kernel)
set_option maxRecDepth 20000 in
theorem gL_fits_L_in : GoodIn wsL_fits (va_wsS RL 28 yL_in wsL_in) := goodIn_app (goodIn_of _ (by decide +kernel)) ggL_fits_L_in
theorem dL_fits_0 : decode cL_fits 0 = .ok (.iconst 1, 1) := by decide +kernel
theorem dL_fits_1 : decode cL_fits 1 = .ok (.istore 4, 2) := by decide +kernel
theorem dL_fits_3 : decode cL_fits 3 = .ok (.iconst 0, 1) := by decide +kernel
theorem dL_fits_4 : decode cL_fits 4 = .ok (.istore 5, 2) := by decide +kernel
theorem dL_fits_6 : decode cL_fits 6 = .ok (.iload 5, 2) := by decide +kernel
theorem dL_fits_8 : decode cL_fits 8 = .ok (.aload_n 2, 1) := by decide +kernel
theorem dL_fits_9 : decode cL_fits 9 = .ok (.iconst 4, 1) := by decide +kernel
theorem dL_fits_10 : decode cL_fits 10 = .ok (.iaload, 1) := by decide +kernel
theorem dL_fits_11 : decode cL_fits 11 = .ok (.if_icmp .ge 84, 3) := by decide +kernel
theorem dL_fits_14 : decode cL_fits 14 = .ok (.iload_n 0, 1) := by decide +kernel
theorem dL_fits_15 : decode cL_fits 15 = .ok (.aload_n 3, 1) := by decide +kernel
theorem dL_fits_16 : decode cL_fits 16 = .ok (.iconst 4, 1) := by decide +kernel
theorem dL_fits_17 : decode cL_fits 17 = .ok (.iload 5, 2) := by decide +kernel
theorem dL_fits_19 : decode cL_fits 19 = .ok (.imul, 1) := by decide +kernel
theorem dL_fits_20 : decode cL_fits 20 = .ok (.iaload, 1) := by decide +kernel
theorem dL_fits_21 : decode cL_fits 21 = .ok (.aload_n 3, 1) := by decide +kernel
theorem dL_fits_22 : decode cL_fits 22 = .ok (.iconst 4, 1) := by decide +kernel
theorem dL_fits_23 : decode cL_fits 23 = .ok (.iload 5, 2) := by decide +kernel
theorem dL_fits_25 : decode cL_fits 25 = .ok (.imul, 1) := by decide +kernel
theorem dL_fits_26 : decode cL_fits 26 = .ok (.iconst 1, 1) := by decide +kernel
theorem dL_fits_27 : decode cL_fits 27 = .ok (.iadd, 1) := by decide +kernel
theorem dL_fits_28 : decode cL_fits 28 = .ok (.iaload, 1) := by decide +kernel
theorem dL_fits_29 : decode cL_fits 29 = .ok (.invokestatic 28, 3) := by decide +kernel
theorem dL_fits_32 : decode cL_fits 32 = .ok (.istore 6, 2) := by decide +kernel
theorem dL_fits_34 : decode cL_fits 34 = .ok (.iload 4, 2) := by decide +kernel
theorem dL_fits_36 : decode cL_fits 36 = .ok (.ifCond .eq 50, 3) := by decide +kernel
theorem dL_fits_39 : decode cL_fits 39 = .ok (.iload 5, 2) := by decide +kernel
theorem dL_fits_41 : decode cL_fits 41 = .ok (.iload_n 1, 1) := by decide +kernel
theorem dL_fits_42 : decode cL_fits 42 = .ok (.if_icmp .eq 40, 3) := by decide +kernel
theorem dL_fits_45 : decode cL_fits 45 = .ok (.aload_n 3, 1) := by decide +kernel
theorem dL_fits_46 : decode cL_fits 46 = .ok (.iconst 4, 1) := by decide +kernel
theorem dL_fits_47 : decode cL_fits 47 = .ok (.iload 5, 2) := by decide +kernel
theorem dL_fits_49 : decode cL_fits 49 = .ok (.imul, 1) := by decide +kernel
theorem dL_fits_50 : decode cL_fits 50 = .ok (.iconst 2, 1) := by decide +kernel
theorem dL_fits_51 : decode cL_fits 51 = .ok (.iadd, 1) := by decide +kernel
theorem dL_fits_52 : decode cL_fits 52 = .ok (.iaload, 1) := by decide +kernel
theorem dL_fits_53 : decode cL_fits 53 = .ok (.bipush (-2), 2) := by decide +kernel
theorem dL_fits_55 : decode cL_fits 55 = .ok (.if_icmp .ne 14, 3) := by decide +kernel
theorem dL_fits_58 : decode cL_fits 58 = .ok (.iload 6, 2) := by decide +kernel
theorem dL_fits_60 : decode cL_fits 60 = .ok (.aload_n 2, 1) := by decide +kernel
theorem dL_fits_61 : decode cL_fits 61 = .ok (.iconst 2, 1) := by decide +kernel
theorem dL_fits_62 : decode cL_fits 62 = .ok (.iaload, 1) := by decide +kernel
theorem dL_fits_63 : decode cL_fits 63 = .ok (.if_icmp .ge 23, 3) := by decide +kernel
theorem dL_fits_66 : decode cL_fits 66 = .ok (.goto 16, 3) := by decide +kernel
theorem dL_fits_69 : decode cL_fits 69 = .ok (.iload 6, 2) := by decide +kernel
theorem dL_fits_71 : decode cL_fits 71 = .ok (.aload_n 3, 1) := by decide +kernel
theorem dL_fits_72 : decode cL_fits 72 = .ok (.iconst 4, 1) := by decide +kernel
theorem dL_fits_73 : decode cL_fits 73 = .ok (.iload 5, 2) := by decide +kernel
theorem dL_fits_75 : decode cL_fits 75 = .ok (.imul, 1) := by decide +kernel
theorem dL_fits_76 : decode cL_fits 76 = .ok (.iconst 2, 1) := by decide +kernel
theorem dL_fits_77 : decode cL_fits 77 = .ok (.iadd, 1) := by decide +kernel
theorem dL_fits_78 : decode cL_fits 78 = .ok (.iaload, 1) := by decide +kernel
theorem dL_fits_79 : decode cL_fits 79 = .ok (.if_icmp .ne 7, 3) := by decide +kernel
theorem dL_fits_82 : decode cL_fits 82 = .ok (.iconst 1, 1) := by decide +kernel
theorem dL_fits_83 : decode cL_fits 83 = .ok (.goto 4, 3) := by decide +kernel
theorem dL_fits_86 : decode cL_fits 86 = .ok (.iconst 0, 1) := by decide +kernel
theorem dL_fits_87 : decode cL_fits 87 = .ok (.istore 4, 2) := by decide +kernel
theorem dL_fits_89 : decode cL_fits 89 = .ok (.iinc 5 1, 3) := by decide +kernel
theorem dL_fits_92 : decode cL_fits 92 = .ok (.goto (-86), 3) := by decide +kernel
theorem dL_fits_95 : decode cL_fits 95 = .ok (.iload 4, 2) := by decide +kernel
theorem dL_fits_97 : decode cL_fits 97 = .ok (.ireturn, 1) := by decide +kernel
set_option maxRecDepth 20000 in
theorem ggL_possible_L_fits : GoodIn wsL_possible wsL_fits := goodIn_r _ [4, 5, 6, 3, 7, 8, 9, 10] (by decide +kernel) (by decide +kernel)
set_option maxRecDepth 20000 in
theorem gL_possible_L_fits : GoodIn wsL_possible (va_wsS RL 32 yL_fits wsL_fits) := goodIn_app (goodIn_of _ (by decide +kernel)) ggL_possible_L_fits
theorem dL_possible_0 : decode cL_possible 0 = .ok (.iconst 0, 1) := by decide +kernel
theorem dL_possible_1 : decode cL_possible 1 = .ok (.istore 4, 2) := by decide +kernel
theorem dL_possible_3 : decode cL_possible 3 = .ok (.iload 4, 2) := by decide +kernel
theorem dL_possible_5 : decode cL_possible 5 = .ok (.bipush 16, 2) := by decide +kernel
theorem dL_possible_7 : decode cL_possible 7 = .ok (.if_icmp .ge 14, 3) := by decide +kernel
theorem dL_possible_10 : decode cL_possible 10 = .ok (.aload_n 3, 1) := by decide +kernel
theorem dL_possible_11 : decode cL_possible 11 = .ok (.iload 4, 2) := by decide +kernel
theorem dL_possible_13 : decode cL_possible 13 = .ok (.lconst 0, 1) := by decide +kernel
theorem dL_possible_14 : decode cL_possible 14 = .ok (.lastore, 1) := by decide +kernel
theorem dL_possible_15 : decode cL_possible 15 = .ok (.iinc 4 1, 3) := by decide +kernel
theorem dL_possible_18 : decode cL_possible 18 = .ok (.goto (-15), 3) := by decide +kernel
theorem dL_possible_21 : decode cL_possible 21 = .ok (.iconst 0, 1) := by decide +kernel
theorem dL_possible_22 : decode cL_possible 22 = .ok (.istore 4, 2) := by decide +kernel
theorem dL_possible_24 : decode cL_possible 24 = .ok (.iload 4, 2) := by decide +kernel
theorem dL_possible_26 : decode cL_possible 26 = .ok (.iconst 1, 1) := by decide +kernel
theorem dL_possible_27 : decode cL_possible 27 = .ok (.aload_n 1, 1) := by decide +kernel
theorem dL_possible_28 : decode cL_possible 28 = .ok (.iconst 0, 1) := by decide +kernel
theorem dL_possible_29 : decode cL_possible 29 = .ok (.iaload, 1) := by decide +kernel
theorem dL_possible_30 : decode cL_possible 30 = .ok (.ishl, 1) := by decide +kernel
theorem dL_possible_31 : decode cL_possible 31 = .ok (.if_icmp .ge 41, 3) := by decide +kernel
theorem dL_possible_34 : decode cL_possible 34 = .ok (.aload_n 3, 1) := by decide +kernel
theorem dL_possible_35 : decode cL_possible 35 = .ok (.iload 4, 2) := by decide +kernel
theorem dL_possible_37 : decode cL_possible 37 = .ok (.bipush 64, 2) := by decide +kernel
theorem dL_possible_39 : decode cL_possible 39 = .ok (.idiv, 1) := by decide +kernel
theorem dL_possible_40 : decode cL_possible 40 = .ok (.dup2, 1) := by decide +kernel
theorem dL_possible_41 : decode cL_possible 41 = .ok (.laload, 1) := by decide +kernel
theorem dL_possible_42 : decode cL_possible 42 = .ok (.iload 4, 2) := by decide +kernel
theorem dL_possible_44 : decode cL_possible 44 = .ok (.iload_n 0, 1) := by decide +kernel
theorem dL_possible_45 : decode cL_possible 45 = .ok (.aload_n 1, 1) := by decide +kernel
theorem dL_possible_46 : decode cL_possible 46 = .ok (.aload_n 2, 1) := by decide +kernel
theorem dL_possible_47 : decode cL_possible 47 = .ok (.invokestatic 32, 3) := by decide +kernel
theorem dL_possible_50 : decode cL_possible 50 = .ok (.ifCond .eq 13, 3) := by decide +kernel
theorem dL_possible_53 : decode cL_possible 53 = .ok (.lconst 1, 1) := by decide +kernel
theorem dL_possible_54 : decode cL_possible 54 = .ok (.iload 4, 2) := by decide +kernel
theorem dL_possible_56 : decode cL_possible 56 = .ok (.bipush 64, 2) := by decide +kernel
theorem dL_possible_58 : decode cL_possible 58 = .ok (.irem, 1) := by decide +kernel
theorem dL_possible_59 : decode cL_possible 59 = .ok (.lshl, 1) := by decide +kernel
theorem dL_possible_60 : decode cL_possible 60 = .ok (.goto 4, 3) := by decide +kernel
theorem dL_possible_63 : decode cL_possible 63 = .ok (.lconst 0, 1) := by decide +kernel
theorem dL_possible_64 : decode cL_possible 64 = .ok (.lor, 1) := by decide +kernel
theorem dL_possible_65 : decode cL_possible 65 = .ok (.lastore, 1) := by decide +kernel
theorem dL_possible_66 : decode cL_possible 66 = .ok (.iinc 4 1, 3) := by decide +kernel
theorem dL_possible_69 : decode cL_possible 69 = .ok (.goto (-45), 3) := by decide +kernel
theorem dL_possible_72 : decode cL_possible 72 = .ok (.return_, 1) := by decide +kernel
theorem dL_is_0 : decode cL_is 0 = .ok (.aload_n 1, 1) := by decide +kernel
theorem dL_is_1 : decode cL_is 1 = .ok (.iload_n 0, 1) := by decide +kernel
theorem dL_is_2 : decode cL_is 2 = .ok (.bipush 64, 2) := by decide +kernel
theorem dL_is_4 : decode cL_is 4 = .ok (.idiv, 1) := by decide +kernel
theorem dL_is_5 : decode cL_is 5 = .ok (.laload, 1) := by decide +kernel
theorem dL_is_6 : decode cL_is 6 = .ok (.iload_n 0, 1) := by decide +kernel
theorem dL_is_7 : decode cL_is 7 = .ok (.bipush 64, 2) := by decide +kernel
theorem dL_is_9 : decode cL_is 9 = .ok (.irem, 1) := by decide +kernel
theorem dL_is_10 : decode cL_is 10 = .ok (.lshr, 1) := by decide +kernel
theorem dL_is_11 : decode cL_is 11 = .ok (.lconst 1, 1) := by decide +kernel
theorem dL_is_12 : decode cL_is 12 = .ok (.land, 1) := by decide +kernel
theorem dL_is_13 : decode cL_is 13 = .ok (.lconst 1, 1) := by decide +kernel
theorem dL_is_14 : decode cL_is 14 = .ok (.lcmp, 1) := by decide +kernel
theorem dL_is_15 : decode cL_is 15 = .ok (.ifCond .ne 7, 3) := by decide +kernel
theorem dL_is_18 : decode cL_is 18 = .ok (.iconst 1, 1) := by decide +kernel
theorem dL_is_19 : decode cL_is 19 = .ok (.goto 4, 3) := by decide +kernel
theorem dL_is_22 : decode cL_is 22 = .ok (.iconst 0, 1) := by decide +kernel
theorem dL_is_23 : decode cL_is 23 = .ok (.ireturn, 1) := by decide +kernel
set_option maxRecDepth 20000 in
theorem ggL_least_L_is : GoodIn wsL_least wsL_is := goodIn_r _ [4] (by decide +kernel) (by decide +kernel)
set_option maxRecDepth 20000 in
theorem gL_least_L_is : GoodIn wsL_least (va_wsS RL 36 yL_is wsL_is) := goodIn_app (goodIn_of _ (by decide +kernel)) ggL_least_L_is
set_option maxRecDepth 20000 in
theorem ggL_least_L_in : GoodIn wsL_least wsL_in := goodIn_r _ [7, 8, 9, 3, 10] (by decide +kernel) (by decide +kernel)
set_option maxRecDepth 20000 in
theorem gL_least_L_in : GoodIn wsL_least (va_wsS RL 28 yL_in wsL_in) := goodIn_app (goodIn_of _ (by decide +kernel)) ggL_least_L_in
theorem dL_least_0 : decode cL_least 0 = .ok (.bipush 99, 2) := by decide +kernel
theorem dL_least_2 : decode cL_least 2 = .ok (.istore 4, 2) := by decide +kernel
theorem dL_least_4 : decode cL_least 4 = .ok (.iconst 0, 1) := by decide +kernel
theorem dL_least_5 : decode cL_least 5 = .ok (.istore 5, 2) := by decide +kernel
theorem dL_least_7 : decode cL_least 7 = .ok (.iload 5, 2) := by decide +kernel
theorem dL_least_9 : decode cL_least 9 = .ok (.iconst 1, 1) := by decide +kernel
theorem dL_least_10 : decode cL_least 10 = .ok (.aload_n 2, 1) := by decide +kernel
theorem dL_least_11 : decode cL_least 11 = .ok (.iconst 0, 1) := by decide +kernel
theorem dL_least_12 : decode cL_least 12 = .ok (.iaload, 1) := by decide +kernel
theorem dL_least_13 : decode cL_least 13 = .ok (.ishl, 1) := by decide +kernel
theorem dL_least_14 : decode cL_least 14 = .ok (.if_icmp .ge 39, 3) := by decide +kernel
theorem dL_least_17 : decode cL_least 17 = .ok (.iload 5, 2) := by decide +kernel
theorem dL_least_19 : decode cL_least 19 = .ok (.aload_n 3, 1) := by decide +kernel
theorem dL_least_20 : decode cL_least 20 = .ok (.invokestatic 36, 3) := by decide +kernel
theorem dL_least_23 : decode cL_least 23 = .ok (.ifCond .eq 24, 3) := by decide +kernel
theorem dL_least_26 : decode cL_least 26 = .ok (.iload 5, 2) := by decide +kernel
theorem dL_least_28 : decode cL_least 28 = .ok (.iload_n 0, 1) := by decide +kernel
theorem dL_least_29 : decode cL_least 29 = .ok (.iload_n 1, 1) := by decide +kernel
theorem dL_least_30 : decode cL_least 30 = .ok (.invokestatic 28, 3) := by decide +kernel
theorem dL_least_33 : decode cL_least 33 = .ok (.iload 4, 2) := by decide +kernel
theorem dL_least_35 : decode cL_least 35 = .ok (.if_icmp .ge 12, 3) := by decide +kernel
theorem dL_least_38 : decode cL_least 38 = .ok (.iload 5, 2) := by decide +kernel
theorem dL_least_40 : decode cL_least 40 = .ok (.iload_n 0, 1) := by decide +kernel
theorem dL_least_41 : decode cL_least 41 = .ok (.iload_n 1, 1) := by decide +kernel
theorem dL_least_42 : decode cL_least 42 = .ok (.invokestatic 28, 3) := by decide +kernel
theorem dL_least_45 : decode cL_least 45 = .ok (.istore 4, 2) := by decide +kernel
theorem dL_least_47 : decode cL_least 47 = .ok (.iinc 5 1, 3) := by decide +kernel
theorem dL_least_50 : decode cL_least 50 = .ok (.goto (-43), 3) := by decide +kernel
theorem dL_least_53 : decode cL_least 53 = .ok (.iload 4, 2) := by decide +kernel
theorem dL_least_55 : decode cL_least 55 = .ok (.ireturn, 1) := by decide +kernel
set_option maxRecDepth 20000 in
theorem ggL_most_L_is : GoodIn wsL_most wsL_is := goodIn_r _ [4] (by decide +kernel) (by decide +kernel)
set_option maxRecDepth 20000 in
theorem gL_most_L_is : GoodIn wsL_most (va_wsS RL 36 yL_is wsL_is) := goodIn_app (goodIn_of _ (by decide +kernel)) ggL_most_L_is
set_option maxRecDepth 20000 in
theorem ggL_most_L_in : GoodIn wsL_most wsL_in := goodIn_r _ [7, 8, 9, 3, 10] (by decide +kernel) (by decide +kernel)
set_option maxRecDepth 20000 in
theorem gL_most_L_in : GoodIn wsL_most (va_wsS RL 28 yL_in wsL_in) := goodIn_app (goodIn_of _ (by decide +kernel)) ggL_most_L_in
theorem dL_most_0 : decode cL_most 0 = .ok (.iconst (-1), 1) := by decide +kernel
theorem dL_most_1 : decode cL_most 1 = .ok (.istore 4, 2) := by decide +kernel
theorem dL_most_3 : decode cL_most 3 = .ok (.iconst 0, 1) := by decide +kernel
theorem dL_most_4 : decode cL_most 4 = .ok (.istore 5, 2) := by decide +kernel
theorem dL_most_6 : decode cL_most 6 = .ok (.iload 5, 2) := by decide +kernel
theorem dL_most_8 : decode cL_most 8 = .ok (.iconst 1, 1) := by decide +kernel
theorem dL_most_9 : decode cL_most 9 = .ok (.aload_n 2, 1) := by decide +kernel
theorem dL_most_10 : decode cL_most 10 = .ok (.iconst 0, 1) := by decide +kernel
theorem dL_most_11 : decode cL_most 11 = .ok (.iaload, 1) := by decide +kernel
theorem dL_most_12 : decode cL_most 12 = .ok (.ishl, 1) := by decide +kernel
theorem dL_most_13 : decode cL_most 13 = .ok (.if_icmp .ge 39, 3) := by decide +kernel
theorem dL_most_16 : decode cL_most 16 = .ok (.iload 5, 2) := by decide +kernel
theorem dL_most_18 : decode cL_most 18 = .ok (.aload_n 3, 1) := by decide +kernel
theorem dL_most_19 : decode cL_most 19 = .ok (.invokestatic 36, 3) := by decide +kernel
theorem dL_most_22 : decode cL_most 22 = .ok (.ifCond .eq 24, 3) := by decide +kernel
theorem dL_most_25 : decode cL_most 25 = .ok (.iload 5, 2) := by decide +kernel
theorem dL_most_27 : decode cL_most 27 = .ok (.iload_n 0, 1) := by decide +kernel
theorem dL_most_28 : decode cL_most 28 = .ok (.iload_n 1, 1) := by decide +kernel
theorem dL_most_29 : decode cL_most 29 = .ok (.invokestatic 28, 3) := by decide +kernel
theorem dL_most_32 : decode cL_most 32 = .ok (.iload 4, 2) := by decide +kernel
theorem dL_most_34 : decode cL_most 34 = .ok (.if_icmp .le 12, 3) := by decide +kernel
theorem dL_most_37 : decode cL_most 37 = .ok (.iload 5, 2) := by decide +kernel
theorem dL_most_39 : decode cL_most 39 = .ok (.iload_n 0, 1) := by decide +kernel
theorem dL_most_40 : decode cL_most 40 = .ok (.iload_n 1, 1) := by decide +kernel
theorem dL_most_41 : decode cL_most 41 = .ok (.invokestatic 28, 3) := by decide +kernel
theorem dL_most_44 : decode cL_most 44 = .ok (.istore 4, 2) := by decide +kernel
theorem dL_most_46 : decode cL_most 46 = .ok (.iinc 5 1, 3) := by decide +kernel
theorem dL_most_49 : decode cL_most 49 = .ok (.goto (-43), 3) := by decide +kernel
theorem dL_most_52 : decode cL_most 52 = .ok (.iload 4, 2) := by decide +kernel
theorem dL_most_54 : decode cL_most 54 = .ok (.ireturn, 1) := by decide +kernel
set_option maxRecDepth 20000 in
theorem ggL_known_L_is : GoodIn wsL_known wsL_is := goodIn_r _ [4] (by decide +kernel) (by decide +kernel)
set_option maxRecDepth 20000 in
theorem gL_known_L_is : GoodIn wsL_known (va_wsS RL 36 yL_is wsL_is) := goodIn_app (goodIn_of _ (by decide +kernel)) ggL_known_L_is
theorem dL_known_0 : decode cL_known 0 = .ok (.iconst (-1), 1) := by decide +kernel
theorem dL_known_1 : decode cL_known 1 = .ok (.istore_n 2, 1) := by decide +kernel
theorem dL_known_2 : decode cL_known 2 = .ok (.iconst 0, 1) := by decide +kernel
theorem dL_known_3 : decode cL_known 3 = .ok (.istore_n 3, 1) := by decide +kernel
theorem dL_known_4 : decode cL_known 4 = .ok (.iconst 0, 1) := by decide +kernel
theorem dL_known_5 : decode cL_known 5 = .ok (.istore 4, 2) := by decide +kernel
theorem dL_known_7 : decode cL_known 7 = .ok (.iload 4, 2) := by decide +kernel
theorem dL_known_9 : decode cL_known 9 = .ok (.iconst 1, 1) := by decide +kernel
theorem dL_known_10 : decode cL_known 10 = .ok (.aload_n 0, 1) := by decide +kernel
theorem dL_known_11 : decode cL_known 11 = .ok (.iconst 0, 1) := by decide +kernel
theorem dL_known_12 : decode cL_known 12 = .ok (.iaload, 1) := by decide +kernel
theorem dL_known_13 : decode cL_known 13 = .ok (.ishl, 1) := by decide +kernel
theorem dL_known_14 : decode cL_known 14 = .ok (.if_icmp .ge 31, 3) := by decide +kernel
theorem dL_known_17 : decode cL_known 17 = .ok (.iload 4, 2) := by decide +kernel
theorem dL_known_19 : decode cL_known 19 = .ok (.aload_n 1, 1) := by decide +kernel
theorem dL_known_20 : decode cL_known 20 = .ok (.invokestatic 36, 3) := by decide +kernel
theorem dL_known_23 : decode cL_known 23 = .ok (.ifCond .ne 6, 3) := by decide +kernel
theorem dL_known_26 : decode cL_known 26 = .ok (.goto 13, 3) := by decide +kernel
theorem dL_known_29 : decode cL_known 29 = .ok (.iload_n 2, 1) := by decide +kernel
theorem dL_known_30 : decode cL_known 30 = .ok (.iload 4, 2) := by decide +kernel
theorem dL_known_32 : decode cL_known 32 = .ok (.iand, 1) := by decide +kernel
theorem dL_known_33 : decode cL_known 33 = .ok (.istore_n 2, 1) := by decide +kernel
theorem dL_known_34 : decode cL_known 34 = .ok (.iload_n 3, 1) := by decide +kernel
theorem dL_known_35 : decode cL_known 35 = .ok (.iload 4, 2) := by decide +kernel
theorem dL_known_37 : decode cL_known 37 = .ok (.ior, 1) := by decide +kernel
theorem dL_known_38 : decode cL_known 38 = .ok (.istore_n 3, 1) := by decide +kernel
theorem dL_known_39 : decode cL_known 39 = .ok (.iinc 4 1, 3) := by decide +kernel
theorem dL_known_42 : decode cL_known 42 = .ok (.goto (-35), 3) := by decide +kernel
theorem dL_known_45 : decode cL_known 45 = .ok (.iload_n 2, 1) := by decide +kernel
theorem dL_known_46 : decode cL_known 46 = .ok (.iload_n 3, 1) := by decide +kernel
theorem dL_known_47 : decode cL_known 47 = .ok (.iconst (-1), 1) := by decide +kernel
theorem dL_known_48 : decode cL_known 48 = .ok (.ixor, 1) := by decide +kernel
theorem dL_known_49 : decode cL_known 49 = .ok (.ior, 1) := by decide +kernel
theorem dL_known_50 : decode cL_known 50 = .ok (.iconst 1, 1) := by decide +kernel
theorem dL_known_51 : decode cL_known 51 = .ok (.aload_n 0, 1) := by decide +kernel
theorem dL_known_52 : decode cL_known 52 = .ok (.iconst 0, 1) := by decide +kernel
theorem dL_known_53 : decode cL_known 53 = .ok (.iaload, 1) := by decide +kernel
theorem dL_known_54 : decode cL_known 54 = .ok (.ishl, 1) := by decide +kernel
theorem dL_known_55 : decode cL_known 55 = .ok (.iconst 1, 1) := by decide +kernel
theorem dL_known_56 : decode cL_known 56 = .ok (.isub, 1) := by decide +kernel
theorem dL_known_57 : decode cL_known 57 = .ok (.iand, 1) := by decide +kernel
theorem dL_known_58 : decode cL_known 58 = .ok (.ireturn, 1) := by decide +kernel
theorem dL_about_0 : decode cL_about 0 = .ok (.iconst 0, 1) := by decide +kernel
theorem dL_about_1 : decode cL_about 1 = .ok (.istore 4, 2) := by decide +kernel
theorem dL_about_3 : decode cL_about 3 = .ok (.iload 4, 2) := by decide +kernel
theorem dL_about_5 : decode cL_about 5 = .ok (.aload_n 2, 1) := by decide +kernel
theorem dL_about_6 : decode cL_about 6 = .ok (.iconst 4, 1) := by decide +kernel
theorem dL_about_7 : decode cL_about 7 = .ok (.iaload, 1) := by decide +kernel
theorem dL_about_8 : decode cL_about 8 = .ok (.if_icmp .ge 34, 3) := by decide +kernel
theorem dL_about_11 : decode cL_about 11 = .ok (.aload_n 3, 1) := by decide +kernel
theorem dL_about_12 : decode cL_about 12 = .ok (.iconst 4, 1) := by decide +kernel
theorem dL_about_13 : decode cL_about 13 = .ok (.iload 4, 2) := by decide +kernel
theorem dL_about_15 : decode cL_about 15 = .ok (.imul, 1) := by decide +kernel
theorem dL_about_16 : decode cL_about 16 = .ok (.iaload, 1) := by decide +kernel
theorem dL_about_17 : decode cL_about 17 = .ok (.iload_n 0, 1) := by decide +kernel
theorem dL_about_18 : decode cL_about 18 = .ok (.if_icmp .ne 18, 3) := by decide +kernel
theorem dL_about_21 : decode cL_about 21 = .ok (.aload_n 3, 1) := by decide +kernel
theorem dL_about_22 : decode cL_about 22 = .ok (.iconst 4, 1) := by decide +kernel
theorem dL_about_23 : decode cL_about 23 = .ok (.iload 4, 2) := by decide +kernel
theorem dL_about_25 : decode cL_about 25 = .ok (.imul, 1) := by decide +kernel
theorem dL_about_26 : decode cL_about 26 = .ok (.iconst 1, 1) := by decide +kernel
theorem dL_about_27 : decode cL_about 27 = .ok (.iadd, 1) := by decide +kernel
theorem dL_about_28 : decode cL_about 28 = .ok (.iaload, 1) := by decide +kernel
theorem dL_about_29 : decode cL_about 29 = .ok (.iload_n 1, 1) := by decide +kernel
theorem dL_about_30 : decode cL_about 30 = .ok (.if_icmp .ne 6, 3) := by decide +kernel
theorem dL_about_33 : decode cL_about 33 = .ok (.iload 4, 2) := by decide +kernel
theorem dL_about_35 : decode cL_about 35 = .ok (.ireturn, 1) := by decide +kernel
theorem dL_about_36 : decode cL_about 36 = .ok (.iinc 4 1, 3) := by decide +kernel
theorem dL_about_39 : decode cL_about 39 = .ok (.goto (-36), 3) := by decide +kernel
theorem dL_about_42 : decode cL_about 42 = .ok (.iconst (-1), 1) := by decide +kernel
theorem dL_about_43 : decode cL_about 43 = .ok (.ireturn, 1) := by decide +kernel
set_option maxRecDepth 20000 in
theorem ggL_cost_L_about : GoodIn wsL_cost wsL_about := goodIn_r _ [4] (by decide +kernel) (by decide +kernel)
set_option maxRecDepth 20000 in
theorem gL_cost_L_about : GoodIn wsL_cost (va_wsS RL 40 yL_about wsL_about) := goodIn_app (goodIn_of _ (by decide +kernel)) ggL_cost_L_about
theorem dL_cost_0 : decode cL_cost 0 = .ok (.iload_n 0, 1) := by decide +kernel
theorem dL_cost_1 : decode cL_cost 1 = .ok (.iload_n 1, 1) := by decide +kernel
theorem dL_cost_2 : decode cL_cost 2 = .ok (.aload_n 2, 1) := by decide +kernel
theorem dL_cost_3 : decode cL_cost 3 = .ok (.aload_n 3, 1) := by decide +kernel
theorem dL_cost_4 : decode cL_cost 4 = .ok (.invokestatic 40, 3) := by decide +kernel
theorem dL_cost_7 : decode cL_cost 7 = .ok (.ifCond .lt 7, 3) := by decide +kernel
theorem dL_cost_10 : decode cL_cost 10 = .ok (.iconst 0, 1) := by decide +kernel
theorem dL_cost_11 : decode cL_cost 11 = .ok (.goto 14, 3) := by decide +kernel
theorem dL_cost_14 : decode cL_cost 14 = .ok (.aload_n 2, 1) := by decide +kernel
theorem dL_cost_15 : decode cL_cost 15 = .ok (.iconst 3, 1) := by decide +kernel
theorem dL_cost_16 : decode cL_cost 16 = .ok (.iaload, 1) := by decide +kernel
theorem dL_cost_17 : decode cL_cost 17 = .ok (.iload_n 1, 1) := by decide +kernel
theorem dL_cost_18 : decode cL_cost 18 = .ok (.iload_n 0, 1) := by decide +kernel
theorem dL_cost_19 : decode cL_cost 19 = .ok (.isub, 1) := by decide +kernel
theorem dL_cost_20 : decode cL_cost 20 = .ok (.iconst 1, 1) := by decide +kernel
theorem dL_cost_21 : decode cL_cost 21 = .ok (.iadd, 1) := by decide +kernel
theorem dL_cost_22 : decode cL_cost 22 = .ok (.iconst 4, 1) := by decide +kernel
theorem dL_cost_23 : decode cL_cost 23 = .ok (.idiv, 1) := by decide +kernel
theorem dL_cost_24 : decode cL_cost 24 = .ok (.iadd, 1) := by decide +kernel
theorem dL_cost_25 : decode cL_cost 25 = .ok (.ireturn, 1) := by decide +kernel
theorem dL_drop_0 : decode cL_drop 0 = .ok (.iconst 4, 1) := by decide +kernel
theorem dL_drop_1 : decode cL_drop 1 = .ok (.iload_n 0, 1) := by decide +kernel
theorem dL_drop_2 : decode cL_drop 2 = .ok (.imul, 1) := by decide +kernel
theorem dL_drop_3 : decode cL_drop 3 = .ok (.istore_n 3, 1) := by decide +kernel
theorem dL_drop_4 : decode cL_drop 4 = .ok (.iload_n 3, 1) := by decide +kernel
theorem dL_drop_5 : decode cL_drop 5 = .ok (.iconst 4, 1) := by decide +kernel
theorem dL_drop_6 : decode cL_drop 6 = .ok (.iadd, 1) := by decide +kernel
theorem dL_drop_7 : decode cL_drop 7 = .ok (.iconst 4, 1) := by decide +kernel
theorem dL_drop_8 : decode cL_drop 8 = .ok (.aload_n 1, 1) := by decide +kernel
theorem dL_drop_9 : decode cL_drop 9 = .ok (.iconst 4, 1) := by decide +kernel
theorem dL_drop_10 : decode cL_drop 10 = .ok (.iaload, 1) := by decide +kernel
theorem dL_drop_11 : decode cL_drop 11 = .ok (.imul, 1) := by decide +kernel
theorem dL_drop_12 : decode cL_drop 12 = .ok (.if_icmp .ge 17, 3) := by decide +kernel
theorem dL_drop_15 : decode cL_drop 15 = .ok (.aload_n 2, 1) := by decide +kernel
theorem dL_drop_16 : decode cL_drop 16 = .ok (.iload_n 3, 1) := by decide +kernel
theorem dL_drop_17 : decode cL_drop 17 = .ok (.aload_n 2, 1) := by decide +kernel
theorem dL_drop_18 : decode cL_drop 18 = .ok (.iload_n 3, 1) := by decide +kernel
theorem dL_drop_19 : decode cL_drop 19 = .ok (.iconst 4, 1) := by decide +kernel
theorem dL_drop_20 : decode cL_drop 20 = .ok (.iadd, 1) := by decide +kernel
theorem dL_drop_21 : decode cL_drop 21 = .ok (.iaload, 1) := by decide +kernel
theorem dL_drop_22 : decode cL_drop 22 = .ok (.iastore, 1) := by decide +kernel
theorem dL_drop_23 : decode cL_drop 23 = .ok (.iinc 3 1, 3) := by decide +kernel
theorem dL_drop_26 : decode cL_drop 26 = .ok (.goto (-22), 3) := by decide +kernel
theorem dL_drop_29 : decode cL_drop 29 = .ok (.aload_n 1, 1) := by decide +kernel
theorem dL_drop_30 : decode cL_drop 30 = .ok (.iconst 4, 1) := by decide +kernel
theorem dL_drop_31 : decode cL_drop 31 = .ok (.dup2, 1) := by decide +kernel
theorem dL_drop_32 : decode cL_drop 32 = .ok (.iaload, 1) := by decide +kernel
theorem dL_drop_33 : decode cL_drop 33 = .ok (.iconst 1, 1) := by decide +kernel
theorem dL_drop_34 : decode cL_drop 34 = .ok (.isub, 1) := by decide +kernel
theorem dL_drop_35 : decode cL_drop 35 = .ok (.iastore, 1) := by decide +kernel
theorem dL_drop_36 : decode cL_drop 36 = .ok (.aload_n 1, 1) := by decide +kernel
theorem dL_drop_37 : decode cL_drop 37 = .ok (.bipush 7, 2) := by decide +kernel
theorem dL_drop_39 : decode cL_drop 39 = .ok (.dup2, 1) := by decide +kernel
theorem dL_drop_40 : decode cL_drop 40 = .ok (.iaload, 1) := by decide +kernel
theorem dL_drop_41 : decode cL_drop 41 = .ok (.iconst 1, 1) := by decide +kernel
theorem dL_drop_42 : decode cL_drop 42 = .ok (.iadd, 1) := by decide +kernel
theorem dL_drop_43 : decode cL_drop 43 = .ok (.iastore, 1) := by decide +kernel
theorem dL_drop_44 : decode cL_drop 44 = .ok (.return_, 1) := by decide +kernel
set_option maxRecDepth 20000 in
theorem ggL_asked_L_cost : GoodIn wsL_asked wsL_cost := goodIn_r _ [4, 5, 6, 3, 7] (by decide +kernel) (by decide +kernel)
set_option maxRecDepth 20000 in
theorem gL_asked_L_cost : GoodIn wsL_asked (va_wsS RL 44 yL_cost wsL_cost) := goodIn_app (goodIn_of _ (by decide +kernel)) ggL_asked_L_cost
set_option maxRecDepth 20000 in
theorem ggL_asked_L_in : GoodIn wsL_asked wsL_in := goodIn_r _ [10, 11, 12, 3, 13] (by decide +kernel) (by decide +kernel)
set_option maxRecDepth 20000 in
theorem gL_asked_L_in : GoodIn wsL_asked (va_wsS RL 28 yL_in wsL_in) := goodIn_app (goodIn_of _ (by decide +kernel)) ggL_asked_L_in
set_option maxRecDepth 20000 in
theorem ggL_asked_L_about : GoodIn wsL_asked wsL_about := goodIn_r _ [7] (by decide +kernel) (by decide +kernel)
set_option maxRecDepth 20000 in
theorem gL_asked_L_about : GoodIn wsL_asked (va_wsS RL 40 yL_about wsL_about) := goodIn_app (goodIn_of _ (by decide +kernel)) ggL_asked_L_about
set_option maxRecDepth 20000 in
theorem ggL_asked_L_drop : GoodIn wsL_asked wsL_drop := goodIn_r _ [16] (by decide +kernel) (by decide +kernel)
set_option maxRecDepth 20000 in
theorem gL_asked_L_drop : GoodIn wsL_asked (va_wsS RL 47 yL_drop wsL_drop) := goodIn_app (goodIn_of _ (by decide +kernel)) ggL_asked_L_drop
theorem dL_asked_0 : decode cL_asked 0 = .ok (.iload_n 0, 1) := by decide +kernel
theorem dL_asked_1 : decode cL_asked 1 = .ok (.iload_n 1, 1) := by decide +kernel
theorem dL_asked_2 : decode cL_asked 2 = .ok (.aload_n 2, 1) := by decide +kernel
theorem dL_asked_3 : decode cL_asked 3 = .ok (.aload_n 3, 1) := by decide +kernel
theorem dL_asked_4 : decode cL_asked 4 = .ok (.invokestatic 44, 3) := by decide +kernel
theorem dL_asked_7 : decode cL_asked 7 = .ok (.istore 4, 2) := by decide +kernel
theorem dL_asked_9 : decode cL_asked 9 = .ok (.aload_n 2, 1) := by decide +kernel
theorem dL_asked_10 : decode cL_asked 10 = .ok (.bipush 8, 2) := by decide +kernel
theorem dL_asked_12 : decode cL_asked 12 = .ok (.iaload, 1) := by decide +kernel
theorem dL_asked_13 : decode cL_asked 13 = .ok (.iload_n 0, 1) := by decide +kernel
theorem dL_asked_14 : decode cL_asked 14 = .ok (.iload_n 1, 1) := by decide +kernel
theorem dL_asked_15 : decode cL_asked 15 = .ok (.invokestatic 28, 3) := by decide +kernel
theorem dL_asked_18 : decode cL_asked 18 = .ok (.istore 5, 2) := by decide +kernel
theorem dL_asked_20 : decode cL_asked 20 = .ok (.iload_n 0, 1) := by decide +kernel
theorem dL_asked_21 : decode cL_asked 21 = .ok (.iload_n 1, 1) := by decide +kernel
theorem dL_asked_22 : decode cL_asked 22 = .ok (.aload_n 2, 1) := by decide +kernel
theorem dL_asked_23 : decode cL_asked 23 = .ok (.aload_n 3, 1) := by decide +kernel
theorem dL_asked_24 : decode cL_asked 24 = .ok (.invokestatic 40, 3) := by decide +kernel
theorem dL_asked_27 : decode cL_asked 27 = .ok (.istore 6, 2) := by decide +kernel
theorem dL_asked_29 : decode cL_asked 29 = .ok (.iload 6, 2) := by decide +kernel
theorem dL_asked_31 : decode cL_asked 31 = .ok (.ifCond .ge 17, 3) := by decide +kernel
theorem dL_asked_34 : decode cL_asked 34 = .ok (.aload_n 2, 1) := by decide +kernel
theorem dL_asked_35 : decode cL_asked 35 = .ok (.iconst 4, 1) := by decide +kernel
theorem dL_asked_36 : decode cL_asked 36 = .ok (.iaload, 1) := by decide +kernel
theorem dL_asked_37 : decode cL_asked 37 = .ok (.bipush 12, 2) := by decide +kernel
theorem dL_asked_39 : decode cL_asked 39 = .ok (.if_icmp .ne 9, 3) := by decide +kernel
theorem dL_asked_42 : decode cL_asked 42 = .ok (.iconst 0, 1) := by decide +kernel
theorem dL_asked_43 : decode cL_asked 43 = .ok (.aload_n 2, 1) := by decide +kernel
theorem dL_asked_44 : decode cL_asked 44 = .ok (.aload_n 3, 1) := by decide +kernel
theorem dL_asked_45 : decode cL_asked 45 = .ok (.invokestatic 47, 3) := by decide +kernel
theorem dL_asked_48 : decode cL_asked 48 = .ok (.iload 6, 2) := by decide +kernel
theorem dL_asked_50 : decode cL_asked 50 = .ok (.ifCond .ge 14, 3) := by decide +kernel
theorem dL_asked_53 : decode cL_asked 53 = .ok (.aload_n 2, 1) := by decide +kernel
theorem dL_asked_54 : decode cL_asked 54 = .ok (.iconst 4, 1) := by decide +kernel
theorem dL_asked_55 : decode cL_asked 55 = .ok (.dup2, 1) := by decide +kernel
theorem dL_asked_56 : decode cL_asked 56 = .ok (.iaload, 1) := by decide +kernel
theorem dL_asked_57 : decode cL_asked 57 = .ok (.dup_x2, 1) := by decide +kernel
theorem dL_asked_58 : decode cL_asked 58 = .ok (.iconst 1, 1) := by decide +kernel
theorem dL_asked_59 : decode cL_asked 59 = .ok (.iadd, 1) := by decide +kernel
theorem dL_asked_60 : decode cL_asked 60 = .ok (.iastore, 1) := by decide +kernel
theorem dL_asked_61 : decode cL_asked 61 = .ok (.goto 5, 3) := by decide +kernel
theorem dL_asked_64 : decode cL_asked 64 = .ok (.iload 6, 2) := by decide +kernel
theorem dL_asked_66 : decode cL_asked 66 = .ok (.istore 6, 2) := by decide +kernel
theorem dL_asked_68 : decode cL_asked 68 = .ok (.aload_n 3, 1) := by decide +kernel
theorem dL_asked_69 : decode cL_asked 69 = .ok (.iconst 4, 1) := by decide +kernel
theorem dL_asked_70 : decode cL_asked 70 = .ok (.iload 6, 2) := by decide +kernel
theorem dL_asked_72 : decode cL_asked 72 = .ok (.imul, 1) := by decide +kernel
theorem dL_asked_73 : decode cL_asked 73 = .ok (.iload_n 0, 1) := by decide +kernel
theorem dL_asked_74 : decode cL_asked 74 = .ok (.iastore, 1) := by decide +kernel
theorem dL_asked_75 : decode cL_asked 75 = .ok (.aload_n 3, 1) := by decide +kernel
theorem dL_asked_76 : decode cL_asked 76 = .ok (.iconst 4, 1) := by decide +kernel
theorem dL_asked_77 : decode cL_asked 77 = .ok (.iload 6, 2) := by decide +kernel
theorem dL_asked_79 : decode cL_asked 79 = .ok (.imul, 1) := by decide +kernel
theorem dL_asked_80 : decode cL_asked 80 = .ok (.iconst 1, 1) := by decide +kernel
theorem dL_asked_81 : decode cL_asked 81 = .ok (.iadd, 1) := by decide +kernel
theorem dL_asked_82 : decode cL_asked 82 = .ok (.iload_n 1, 1) := by decide +kernel
theorem dL_asked_83 : decode cL_asked 83 = .ok (.iastore, 1) := by decide +kernel
theorem dL_asked_84 : decode cL_asked 84 = .ok (.aload_n 3, 1) := by decide +kernel
theorem dL_asked_85 : decode cL_asked 85 = .ok (.iconst 4, 1) := by decide +kernel
theorem dL_asked_86 : decode cL_asked 86 = .ok (.iload 6, 2) := by decide +kernel
theorem dL_asked_88 : decode cL_asked 88 = .ok (.imul, 1) := by decide +kernel
theorem dL_asked_89 : decode cL_asked 89 = .ok (.iconst 2, 1) := by decide +kernel
theorem dL_asked_90 : decode cL_asked 90 = .ok (.iadd, 1) := by decide +kernel
theorem dL_asked_91 : decode cL_asked 91 = .ok (.iload 5, 2) := by decide +kernel
theorem dL_asked_93 : decode cL_asked 93 = .ok (.aload_n 2, 1) := by decide +kernel
theorem dL_asked_94 : decode cL_asked 94 = .ok (.iconst 2, 1) := by decide +kernel
theorem dL_asked_95 : decode cL_asked 95 = .ok (.iaload, 1) := by decide +kernel
theorem dL_asked_96 : decode cL_asked 96 = .ok (.if_icmp .ge 8, 3) := by decide +kernel
theorem dL_asked_99 : decode cL_asked 99 = .ok (.bipush (-2), 2) := by decide +kernel
theorem dL_asked_101 : decode cL_asked 101 = .ok (.goto 5, 3) := by decide +kernel
theorem dL_asked_104 : decode cL_asked 104 = .ok (.iload 5, 2) := by decide +kernel
theorem dL_asked_106 : decode cL_asked 106 = .ok (.iastore, 1) := by decide +kernel
theorem dL_asked_107 : decode cL_asked 107 = .ok (.aload_n 3, 1) := by decide +kernel
theorem dL_asked_108 : decode cL_asked 108 = .ok (.iconst 4, 1) := by decide +kernel
theorem dL_asked_109 : decode cL_asked 109 = .ok (.iload 6, 2) := by decide +kernel
theorem dL_asked_111 : decode cL_asked 111 = .ok (.imul, 1) := by decide +kernel
theorem dL_asked_112 : decode cL_asked 112 = .ok (.iconst 3, 1) := by decide +kernel
theorem dL_asked_113 : decode cL_asked 113 = .ok (.iadd, 1) := by decide +kernel
theorem dL_asked_114 : decode cL_asked 114 = .ok (.iload 4, 2) := by decide +kernel
theorem dL_asked_116 : decode cL_asked 116 = .ok (.iastore, 1) := by decide +kernel
theorem dL_asked_117 : decode cL_asked 117 = .ok (.aload_n 2, 1) := by decide +kernel
theorem dL_asked_118 : decode cL_asked 118 = .ok (.iconst 5, 1) := by decide +kernel
theorem dL_asked_119 : decode cL_asked 119 = .ok (.dup2, 1) := by decide +kernel
theorem dL_asked_120 : decode cL_asked 120 = .ok (.iaload, 1) := by decide +kernel
theorem dL_asked_121 : decode cL_asked 121 = .ok (.iload 4, 2) := by decide +kernel
theorem dL_asked_123 : decode cL_asked 123 = .ok (.iadd, 1) := by decide +kernel
theorem dL_asked_124 : decode cL_asked 124 = .ok (.iastore, 1) := by decide +kernel
theorem dL_asked_125 : decode cL_asked 125 = .ok (.aload_n 2, 1) := by decide +kernel
theorem dL_asked_126 : decode cL_asked 126 = .ok (.bipush 6, 2) := by decide +kernel
theorem dL_asked_128 : decode cL_asked 128 = .ok (.dup2, 1) := by decide +kernel
theorem dL_asked_129 : decode cL_asked 129 = .ok (.iaload, 1) := by decide +kernel
theorem dL_asked_130 : decode cL_asked 130 = .ok (.iconst 1, 1) := by decide +kernel
theorem dL_asked_131 : decode cL_asked 131 = .ok (.iadd, 1) := by decide +kernel
theorem dL_asked_132 : decode cL_asked 132 = .ok (.iastore, 1) := by decide +kernel
theorem dL_asked_133 : decode cL_asked 133 = .ok (.aload_n 3, 1) := by decide +kernel
theorem dL_asked_134 : decode cL_asked 134 = .ok (.iconst 4, 1) := by decide +kernel
theorem dL_asked_135 : decode cL_asked 135 = .ok (.iload 6, 2) := by decide +kernel
theorem dL_asked_137 : decode cL_asked 137 = .ok (.imul, 1) := by decide +kernel
theorem dL_asked_138 : decode cL_asked 138 = .ok (.iconst 2, 1) := by decide +kernel
theorem dL_asked_139 : decode cL_asked 139 = .ok (.iadd, 1) := by decide +kernel
theorem dL_asked_140 : decode cL_asked 140 = .ok (.iaload, 1) := by decide +kernel
theorem dL_asked_141 : decode cL_asked 141 = .ok (.ireturn, 1) := by decide +kernel
set_option maxRecDepth 20000 in
theorem ggL_worst_L_is : GoodIn wsL_worst wsL_is := goodIn_r _ [5] (by decide +kernel) (by decide +kernel)
set_option maxRecDepth 20000 in
theorem gL_worst_L_is : GoodIn wsL_worst (va_wsS RL 36 yL_is wsL_is) := goodIn_app (goodIn_of _ (by decide +kernel)) ggL_worst_L_is
set_option maxRecDepth 20000 in
theorem ggL_worst_L_in : GoodIn wsL_worst wsL_in := goodIn_r _ [8, 9, 10, 4, 11] (by decide +kernel) (by decide +kernel)
set_option maxRecDepth 20000 in
theorem gL_worst_L_in : GoodIn wsL_worst (va_wsS RL 28 yL_in wsL_in) := goodIn_app (goodIn_of _ (by decide +kernel)) ggL_worst_L_in
set_option maxRecDepth 20000 in
theorem ggL_worst_L_bits : GoodIn wsL_worst wsL_bits := goodIn_r _ [11] (by decide +kernel) (by decide +kernel)
set_option maxRecDepth 20000 in
theorem gL_worst_L_bits : GoodIn wsL_worst (va_wsS RL 22 yL_bits wsL_bits) := goodIn_app (goodIn_of _ (by decide +kernel)) ggL_worst_L_bits
theorem dL_worst_0 : decode cL_worst 0 = .ok (.iconst 0, 1) := by decide +kernel
theorem dL_worst_1 : decode cL_worst 1 = .ok (.istore 6, 2) := by decide +kernel
theorem dL_worst_3 : decode cL_worst 3 = .ok (.iload 6, 2) := by decide +kernel
theorem dL_worst_5 : decode cL_worst 5 = .ok (.bipush 12, 2) := by decide +kernel
theorem dL_worst_7 : decode cL_worst 7 = .ok (.if_icmp .ge 21, 3) := by decide +kernel
theorem dL_worst_10 : decode cL_worst 10 = .ok (.aload 4, 2) := by decide +kernel
theorem dL_worst_12 : decode cL_worst 12 = .ok (.iload 6, 2) := by decide +kernel
theorem dL_worst_14 : decode cL_worst 14 = .ok (.iconst (-1), 1) := by decide +kernel
theorem dL_worst_15 : decode cL_worst 15 = .ok (.iastore, 1) := by decide +kernel
theorem dL_worst_16 : decode cL_worst 16 = .ok (.aload 5, 2) := by decide +kernel
theorem dL_worst_18 : decode cL_worst 18 = .ok (.iload 6, 2) := by decide +kernel
theorem dL_worst_20 : decode cL_worst 20 = .ok (.iconst 0, 1) := by decide +kernel
theorem dL_worst_21 : decode cL_worst 21 = .ok (.iastore, 1) := by decide +kernel
theorem dL_worst_22 : decode cL_worst 22 = .ok (.iinc 6 1, 3) := by decide +kernel
theorem dL_worst_25 : decode cL_worst 25 = .ok (.goto (-22), 3) := by decide +kernel
theorem dL_worst_28 : decode cL_worst 28 = .ok (.iconst 0, 1) := by decide +kernel
theorem dL_worst_29 : decode cL_worst 29 = .ok (.istore 6, 2) := by decide +kernel
theorem dL_worst_31 : decode cL_worst 31 = .ok (.iload 6, 2) := by decide +kernel
theorem dL_worst_33 : decode cL_worst 33 = .ok (.iconst 1, 1) := by decide +kernel
theorem dL_worst_34 : decode cL_worst 34 = .ok (.aload_n 2, 1) := by decide +kernel
theorem dL_worst_35 : decode cL_worst 35 = .ok (.iconst 0, 1) := by decide +kernel
theorem dL_worst_36 : decode cL_worst 36 = .ok (.iaload, 1) := by decide +kernel
theorem dL_worst_37 : decode cL_worst 37 = .ok (.ishl, 1) := by decide +kernel
theorem dL_worst_38 : decode cL_worst 38 = .ok (.if_icmp .ge 77, 3) := by decide +kernel
theorem dL_worst_41 : decode cL_worst 41 = .ok (.iload 6, 2) := by decide +kernel
theorem dL_worst_43 : decode cL_worst 43 = .ok (.aload_n 3, 1) := by decide +kernel
theorem dL_worst_44 : decode cL_worst 44 = .ok (.invokestatic 36, 3) := by decide +kernel
theorem dL_worst_47 : decode cL_worst 47 = .ok (.ifCond .ne 6, 3) := by decide +kernel
theorem dL_worst_50 : decode cL_worst 50 = .ok (.goto 59, 3) := by decide +kernel
theorem dL_worst_53 : decode cL_worst 53 = .ok (.iload 6, 2) := by decide +kernel
theorem dL_worst_55 : decode cL_worst 55 = .ok (.iload_n 0, 1) := by decide +kernel
theorem dL_worst_56 : decode cL_worst 56 = .ok (.iload_n 1, 1) := by decide +kernel
theorem dL_worst_57 : decode cL_worst 57 = .ok (.invokestatic 28, 3) := by decide +kernel
theorem dL_worst_60 : decode cL_worst 60 = .ok (.istore 7, 2) := by decide +kernel
theorem dL_worst_62 : decode cL_worst 62 = .ok (.iload 7, 2) := by decide +kernel
theorem dL_worst_64 : decode cL_worst 64 = .ok (.aload_n 2, 1) := by decide +kernel
theorem dL_worst_65 : decode cL_worst 65 = .ok (.iconst 2, 1) := by decide +kernel
theorem dL_worst_66 : decode cL_worst 66 = .ok (.iaload, 1) := by decide +kernel
theorem dL_worst_67 : decode cL_worst 67 = .ok (.if_icmp .ge 8, 3) := by decide +kernel
theorem dL_worst_70 : decode cL_worst 70 = .ok (.bipush 11, 2) := by decide +kernel
theorem dL_worst_72 : decode cL_worst 72 = .ok (.goto 5, 3) := by decide +kernel
theorem dL_worst_75 : decode cL_worst 75 = .ok (.iload 7, 2) := by decide +kernel
theorem dL_worst_77 : decode cL_worst 77 = .ok (.istore 8, 2) := by decide +kernel
theorem dL_worst_79 : decode cL_worst 79 = .ok (.aload 4, 2) := by decide +kernel
theorem dL_worst_81 : decode cL_worst 81 = .ok (.iload 8, 2) := by decide +kernel
theorem dL_worst_83 : decode cL_worst 83 = .ok (.dup2, 1) := by decide +kernel
theorem dL_worst_84 : decode cL_worst 84 = .ok (.iaload, 1) := by decide +kernel
theorem dL_worst_85 : decode cL_worst 85 = .ok (.iload 6, 2) := by decide +kernel
theorem dL_worst_87 : decode cL_worst 87 = .ok (.iand, 1) := by decide +kernel
theorem dL_worst_88 : decode cL_worst 88 = .ok (.iastore, 1) := by decide +kernel
theorem dL_worst_89 : decode cL_worst 89 = .ok (.aload 5, 2) := by decide +kernel
theorem dL_worst_91 : decode cL_worst 91 = .ok (.iload 8, 2) := by decide +kernel
theorem dL_worst_93 : decode cL_worst 93 = .ok (.dup2, 1) := by decide +kernel
theorem dL_worst_94 : decode cL_worst 94 = .ok (.iaload, 1) := by decide +kernel
theorem dL_worst_95 : decode cL_worst 95 = .ok (.iload 6, 2) := by decide +kernel
theorem dL_worst_97 : decode cL_worst 97 = .ok (.ior, 1) := by decide +kernel
theorem dL_worst_98 : decode cL_worst 98 = .ok (.iastore, 1) := by decide +kernel
theorem dL_worst_99 : decode cL_worst 99 = .ok (.aload 4, 2) := by decide +kernel
theorem dL_worst_101 : decode cL_worst 101 = .ok (.iload 8, 2) := by decide +kernel
theorem dL_worst_103 : decode cL_worst 103 = .ok (.dup2, 1) := by decide +kernel
theorem dL_worst_104 : decode cL_worst 104 = .ok (.iaload, 1) := by decide +kernel
theorem dL_worst_105 : decode cL_worst 105 = .ok (.ldc 51, 2) := by decide +kernel
theorem dL_worst_107 : decode cL_worst 107 = .ok (.iand, 1) := by decide +kernel
theorem dL_worst_108 : decode cL_worst 108 = .ok (.iastore, 1) := by decide +kernel
theorem dL_worst_109 : decode cL_worst 109 = .ok (.iinc 6 1, 3) := by decide +kernel
theorem dL_worst_112 : decode cL_worst 112 = .ok (.goto (-81), 3) := by decide +kernel
theorem dL_worst_115 : decode cL_worst 115 = .ok (.bipush 99, 2) := by decide +kernel
theorem dL_worst_117 : decode cL_worst 117 = .ok (.istore 6, 2) := by decide +kernel
theorem dL_worst_119 : decode cL_worst 119 = .ok (.iconst 0, 1) := by decide +kernel
theorem dL_worst_120 : decode cL_worst 120 = .ok (.istore 7, 2) := by decide +kernel
theorem dL_worst_122 : decode cL_worst 122 = .ok (.iload 7, 2) := by decide +kernel
theorem dL_worst_124 : decode cL_worst 124 = .ok (.bipush 12, 2) := by decide +kernel
theorem dL_worst_126 : decode cL_worst 126 = .ok (.if_icmp .ge 60, 3) := by decide +kernel
theorem dL_worst_129 : decode cL_worst 129 = .ok (.aload 4, 2) := by decide +kernel
theorem dL_worst_131 : decode cL_worst 131 = .ok (.iload 7, 2) := by decide +kernel
theorem dL_worst_133 : decode cL_worst 133 = .ok (.iaload, 1) := by decide +kernel
theorem dL_worst_134 : decode cL_worst 134 = .ok (.aload 5, 2) := by decide +kernel
theorem dL_worst_136 : decode cL_worst 136 = .ok (.iload 7, 2) := by decide +kernel
theorem dL_worst_138 : decode cL_worst 138 = .ok (.iaload, 1) := by decide +kernel
theorem dL_worst_139 : decode cL_worst 139 = .ok (.iconst (-1), 1) := by decide +kernel
theorem dL_worst_140 : decode cL_worst 140 = .ok (.ixor, 1) := by decide +kernel
theorem dL_worst_141 : decode cL_worst 141 = .ok (.ior, 1) := by decide +kernel
theorem dL_worst_142 : decode cL_worst 142 = .ok (.iconst 1, 1) := by decide +kernel
theorem dL_worst_143 : decode cL_worst 143 = .ok (.aload_n 2, 1) := by decide +kernel
theorem dL_worst_144 : decode cL_worst 144 = .ok (.iconst 0, 1) := by decide +kernel
theorem dL_worst_145 : decode cL_worst 145 = .ok (.iaload, 1) := by decide +kernel
theorem dL_worst_146 : decode cL_worst 146 = .ok (.ishl, 1) := by decide +kernel
theorem dL_worst_147 : decode cL_worst 147 = .ok (.iconst 1, 1) := by decide +kernel
theorem dL_worst_148 : decode cL_worst 148 = .ok (.isub, 1) := by decide +kernel
theorem dL_worst_149 : decode cL_worst 149 = .ok (.iand, 1) := by decide +kernel
theorem dL_worst_150 : decode cL_worst 150 = .ok (.invokestatic 22, 3) := by decide +kernel
theorem dL_worst_153 : decode cL_worst 153 = .ok (.istore 8, 2) := by decide +kernel
theorem dL_worst_155 : decode cL_worst 155 = .ok (.aload 4, 2) := by decide +kernel
theorem dL_worst_157 : decode cL_worst 157 = .ok (.iload 7, 2) := by decide +kernel
theorem dL_worst_159 : decode cL_worst 159 = .ok (.iaload, 1) := by decide +kernel
theorem dL_worst_160 : decode cL_worst 160 = .ok (.iconst (-1), 1) := by decide +kernel
theorem dL_worst_161 : decode cL_worst 161 = .ok (.if_icmp .eq 15, 3) := by decide +kernel
theorem dL_worst_164 : decode cL_worst 164 = .ok (.iload 8, 2) := by decide +kernel
theorem dL_worst_166 : decode cL_worst 166 = .ok (.iload 6, 2) := by decide +kernel
theorem dL_worst_168 : decode cL_worst 168 = .ok (.if_icmp .ge 8, 3) := by decide +kernel
theorem dL_worst_171 : decode cL_worst 171 = .ok (.iload 8, 2) := by decide +kernel
theorem dL_worst_173 : decode cL_worst 173 = .ok (.goto 5, 3) := by decide +kernel
theorem dL_worst_176 : decode cL_worst 176 = .ok (.iload 6, 2) := by decide +kernel
theorem dL_worst_178 : decode cL_worst 178 = .ok (.istore 6, 2) := by decide +kernel
theorem dL_worst_180 : decode cL_worst 180 = .ok (.iinc 7 1, 3) := by decide +kernel
theorem dL_worst_183 : decode cL_worst 183 = .ok (.goto (-61), 3) := by decide +kernel
theorem dL_worst_186 : decode cL_worst 186 = .ok (.iload 6, 2) := by decide +kernel
theorem dL_worst_188 : decode cL_worst 188 = .ok (.ireturn, 1) := by decide +kernel
set_option maxRecDepth 20000 in
theorem ggL_same_L_possible : GoodIn wsL_same wsL_possible := goodIn_r _ [4, 5, 6, 3, 7, 8, 9, 10, 11, 12, 13] (by decide +kernel) (by decide +kernel)
set_option maxRecDepth 20000 in
theorem gL_same_L_possible : GoodIn wsL_same (va_wsS RL 52 yL_possible wsL_possible) := goodIn_app (goodIn_of _ (by decide +kernel)) ggL_same_L_possible
set_option maxRecDepth 20000 in
theorem ggL_same_L_known : GoodIn wsL_same wsL_known := goodIn_r _ [16, 17, 18, 3, 19] (by decide +kernel) (by decide +kernel)
set_option maxRecDepth 20000 in
theorem gL_same_L_known : GoodIn wsL_same (va_wsS RL 56 yL_known wsL_known) := goodIn_app (goodIn_of _ (by decide +kernel)) ggL_same_L_known
set_option maxRecDepth 20000 in
theorem ggL_same_X4_has : GoodIn wsL_same wsX4_has := goodIn_ca (goodIn_r _ [24, 25, 26, 27, 28, 23, 29, 30, 31, 32, 33, 34, 35, 36, 37, 38, 39, 40, 41, 42, 237, 238, 239, 240, 241, 242, 243, 244, 245, 246, 247, 248, 249, 250, 251, 252] (by decide +kernel) (by decide +kernel)) (goodIn_sub (fun _ h => List.mem_cons_of_mem _ (List.mem_append_left _ (List.mem_append_right _ h))) (by decide +kernel))
set_option maxRecDepth 20000 in
theorem gL_same_X4_has : GoodIn wsL_same (wsV RL 60 RX4 yX4_has wsX4_has) := goodIn_app (goodIn_of _ (by decide +kernel)) ggL_same_X4_has
set_option maxRecDepth 20000 in
theorem ggL_same_X4_known : GoodIn wsL_same wsX4_known := goodIn_ca (goodIn_r _ [46, 47, 25, 26, 27, 28, 23, 29, 30, 31, 32, 33, 34, 35, 36, 37, 48, 49, 50, 51, 52, 53, 54, 55, 56, 57, 58, 59, 60, 61, 62, 63, 64, 65, 66, 67, 68, 69, 70, 71, 72, 73, 74, 75, 76, 77, 78, 79, 80, 81, 82, 83, 84, 85, 86, 87, 88, 89, 90, 91, 92, 93, 94, 95, 96, 97, 98, 99, 100, 101, 102, 103, 104, 105, 106, 107, 237, 238, 239, 240, 241, 242, 243, 244, 245, 246, 247, 248, 249, 250, 251, 252, 253, 254] (by decide +kernel) (by decide +kernel)) (goodIn_sub (fun _ h => List.mem_cons_of_mem _ (List.mem_append_left _ (List.mem_append_right _ h))) (by decide +kernel))
set_option maxRecDepth 20000 in
theorem gL_same_X4_known : GoodIn wsL_same (wsV RL 64 RX4 yX4_known wsX4_known) := goodIn_app (goodIn_of _ (by decide +kernel)) ggL_same_X4_known
set_option maxRecDepth 20000 in
theorem ggL_same_X4_knownAt : GoodIn wsL_same wsX4_knownAt := goodIn_ca (goodIn_r _ [111, 112, 113, 47, 25, 48, 49, 50, 51, 52, 53, 54, 55, 56, 57, 58, 59, 60, 61, 62, 63, 64, 65, 66, 67, 68, 69, 70, 71, 35, 72, 73, 74, 75, 76, 77, 78, 79, 80, 81, 82, 83, 84, 85, 86, 87, 88, 89, 90, 91, 92, 93, 94, 95, 114, 115, 116, 117, 118, 97, 98, 99, 100, 101, 102, 103, 104, 105, 106, 107, 237, 238, 239, 240, 241, 242, 243, 244, 245, 246, 247, 248, 249, 250, 251, 252, 253, 254] (by decide +kernel) (by decide +kernel)) (goodIn_sub (fun _ h => List.mem_cons_of_mem _ (List.mem_append_right _ h)) (by decide +kernel))
set_option maxRecDepth 20000 in
theorem gL_same_X4_knownAt : GoodIn wsL_same (wsV RL 66 RX4 yX4_knownAt wsX4_knownAt) := goodIn_app (goodIn_of _ (by decide +kernel)) ggL_same_X4_knownAt
set_option maxRecDepth 20000 in
theorem ggL_same_L_least : GoodIn wsL_same wsL_least := goodIn_r _ [121, 17, 18, 3, 19, 8, 9, 10, 11, 12, 13] (by decide +kernel) (by decide +kernel)
set_option maxRecDepth 20000 in
theorem gL_same_L_least : GoodIn wsL_same (va_wsS RL 69 yL_least wsL_least) := goodIn_app (goodIn_of _ (by decide +kernel)) ggL_same_L_least
set_option maxRecDepth 20000 in
theorem ggL_same_L_most : GoodIn wsL_same wsL_most := goodIn_r _ [124, 17, 18, 3, 19, 8, 9, 10, 11, 12, 13] (by decide +kernel) (by decide +kernel)
set_option maxRecDepth 20000 in
theorem gL_same_L_most : GoodIn wsL_same (va_wsS RL 73 yL_most wsL_most) := goodIn_app (goodIn_of _ (by decide +kernel)) ggL_same_L_most
set_option maxRecDepth 20000 in
theorem ggL_same_L_cost : GoodIn wsL_same wsL_cost := goodIn_r _ [127, 128, 129, 3, 130] (by decide +kernel) (by decide +kernel)
set_option maxRecDepth 20000 in
theorem gL_same_L_cost : GoodIn wsL_same (va_wsS RL 44 yL_cost wsL_cost) := goodIn_app (goodIn_of _ (by decide +kernel)) ggL_same_L_cost
set_option maxRecDepth 20000 in
theorem ggL_same_X4_least : GoodIn wsL_same wsX4_least := goodIn_ca (goodIn_ca (goodIn_r _ [134, 47, 25, 135, 136, 137, 23, 138, 112, 113, 26, 27, 28, 29, 30, 31, 32, 33, 34, 35, 36, 37, 48, 49, 50, 51, 52, 53, 54, 55, 56, 57, 58, 59, 60, 61, 62, 63, 64, 65, 66, 67, 68, 69, 70, 71, 72, 73, 74, 75, 76, 77, 78, 79, 80, 81, 82, 83, 84, 85, 86, 87, 88, 89, 90, 91, 92, 93, 94, 95, 139, 101, 102, 103, 237, 238, 239, 240, 241, 242, 243, 244, 245, 246, 247, 248, 249, 250, 251, 252, 253, 254] (by decide +kernel) (by decide +kernel)) (goodIn_sub (fun _ h => List.mem_cons_of_mem _ (List.mem_append_right _ h)) (by decide +kernel))) (goodIn_sub (fun _ h => List.mem_cons_of_mem _ (List.mem_append_left _ (List.mem_append_right _ h))) (by decide +kernel))
set_option maxRecDepth 20000 in
theorem gL_same_X4_least : GoodIn wsL_same (wsV RL 76 RX4 yX4_least wsX4_least) := goodIn_app (goodIn_of _ (by decide +kernel)) ggL_same_X4_least
set_option maxRecDepth 20000 in
theorem ggL_same_X4_most : GoodIn wsL_same wsX4_most := goodIn_ca (goodIn_ca (goodIn_r _ [143, 47, 25, 135, 136, 137, 23, 138, 112, 113, 26, 27, 28, 29, 30, 31, 32, 33, 34, 35, 36, 37, 48, 49, 50, 51, 52, 53, 54, 55, 56, 57, 58, 59, 60, 61, 62, 63, 64, 65, 66, 67, 68, 69, 70, 71, 72, 73, 74, 75, 76, 77, 78, 79, 80, 81, 82, 83, 84, 85, 86, 87, 88, 89, 90, 91, 92, 93, 94, 95, 144, 105, 106, 107, 237, 238, 239, 240, 241, 242, 243, 244, 245, 246, 247, 248, 249, 250, 251, 252, 253, 254] (by decide +kernel) (by decide +kernel)) (goodIn_sub (fun _ h => List.mem_cons_of_mem _ (List.mem_append_right _ h)) (by decide +kernel))) (goodIn_sub (fun _ h => List.mem_cons_of_mem _ (List.mem_append_left _ (List.mem_append_right _ h))) (by decide +kernel))
set_option maxRecDepth 20000 in
theorem gL_same_X4_most : GoodIn wsL_same (wsV RL 78 RX4 yX4_most wsX4_most) := goodIn_app (goodIn_of _ (by decide +kernel)) ggL_same_X4_most
set_option maxRecDepth 20000 in
theorem ggL_same_X4_costs : GoodIn wsL_same wsX4_costs := goodIn_ca (goodIn_ca (goodIn_r _ [148, 25, 135, 136, 137, 23, 138, 112, 113, 26, 27, 28, 29, 30, 31, 32, 33, 34, 35, 36, 37, 149, 150, 151, 152, 153, 154, 155, 156, 157, 158, 159, 160, 161, 162, 79, 70, 71, 72, 73, 163, 164, 165, 166, 167, 237, 238, 239, 240, 241, 242, 243, 244, 245, 246, 247, 248, 249, 250, 251, 252] (by decide +kernel) (by decide +kernel)) (goodIn_sub (fun _ h => List.mem_cons_of_mem _ (List.mem_append_right _ h)) (by decide +kernel))) (goodIn_sub (fun _ h => List.mem_cons_of_mem _ (List.mem_append_left _ (List.mem_append_right _ h))) (by decide +kernel))
set_option maxRecDepth 20000 in
theorem gL_same_X4_costs : GoodIn wsL_same (wsV RL 80 RX4 yX4_costs wsX4_costs) := goodIn_app (goodIn_of _ (by decide +kernel)) ggL_same_X4_costs
set_option maxRecDepth 20000 in
theorem ggL_same_X4_worst : GoodIn wsL_same wsX4_worst := goodIn_ca (goodIn_ca (goodIn_r _ [171, 25, 47, 172, 173, 174, 61, 62, 63, 175, 176, 177, 135, 136, 137, 23, 138, 112, 113, 26, 27, 28, 29, 30, 31, 32, 33, 34, 35, 36, 37, 149, 150, 151, 152, 153, 48, 49, 50, 51, 52, 53, 54, 55, 56, 57, 58, 59, 60, 64, 65, 66, 67, 68, 69, 70, 71, 72, 73, 74, 75, 76, 77, 78, 79, 80, 81, 82, 83, 84, 85, 86, 87, 88, 89, 90, 91, 92, 93, 94, 95, 139, 101, 102, 103, 144, 105, 106, 107, 178, 179, 180, 181, 182, 183, 184, 185, 186, 237, 238, 239, 240, 241, 242, 243, 244, 245, 246, 247, 248, 249, 250, 251, 252, 253, 254] (by decide +kernel) (by decide +kernel)) (goodIn_sub (fun _ h => List.mem_cons_of_mem _ (List.mem_append_right _ h)) (by decide +kernel))) (goodIn_sub (fun _ h => List.mem_cons_of_mem _ (List.mem_append_left _ (List.mem_append_right _ h))) (by decide +kernel))
set_option maxRecDepth 20000 in
theorem gL_same_X4_worst : GoodIn wsL_same (wsV RL 83 RX4 yX4_worst wsX4_worst) := goodIn_app (goodIn_of _ (by decide +kernel)) ggL_same_X4_worst
set_option maxRecDepth 20000 in
theorem ggL_same_L_worst : GoodIn wsL_same wsL_worst := goodIn_r _ [189, 190, 17, 18, 3, 19, 8, 9, 10, 11, 12, 13] (by decide +kernel) (by decide +kernel)
set_option maxRecDepth 20000 in
theorem gL_same_L_worst : GoodIn wsL_same (va_wsS RL 86 yL_worst wsL_worst) := goodIn_app (goodIn_of _ (by decide +kernel)) ggL_same_L_worst
set_option maxRecDepth 20000 in
theorem ggL_same_X4_bestQuestion : GoodIn wsL_same wsX4_bestQuestion := goodIn_r _ [194, 47, 25, 172, 195, 48, 49, 50, 51, 52, 53, 54, 55, 56, 57, 58, 59, 60, 61, 62, 63, 64, 65, 66, 67, 68, 69, 70, 71, 35, 72, 73, 74, 75, 76, 77, 78, 79, 80, 81, 82, 83, 84, 85, 86, 87, 88, 89, 90, 91, 92, 93, 94, 95, 144, 105, 106, 107, 139, 101, 102, 103, 154, 155, 156, 157, 158, 159, 160, 161, 162, 163, 164, 165, 166, 167, 237, 238, 239, 240, 241, 242, 243, 244, 245, 246, 247, 248, 249, 250, 251, 252, 253, 254] (by decide +kernel) (by decide +kernel)
set_option maxRecDepth 20000 in
theorem gL_same_X4_bestQuestion : GoodIn wsL_same (wsV RL 89 RX4 yX4_bestQuestion wsX4_bestQuestion) := goodIn_app (goodIn_of _ (by decide +kernel)) ggL_same_X4_bestQuestion
set_option maxRecDepth 20000 in
theorem ggL_same_X4_about : GoodIn wsL_same wsX4_about := goodIn_ca (goodIn_r _ [199, 112, 113, 25, 172, 195, 173, 200, 201, 202, 203, 204, 47, 205, 206, 207, 35, 208, 42, 209, 210, 211, 212, 213, 214, 215, 48, 49, 50, 51, 52, 53, 54, 55, 56, 57, 58, 59, 60, 61, 62, 63, 64, 65, 66, 67, 68, 69, 70, 71, 72, 73, 74, 75, 76, 77, 78, 79, 80, 81, 82, 83, 84, 85, 86, 87, 88, 89, 90, 91, 92, 93, 94, 95, 216, 217, 218, 219, 118, 97, 98, 99, 100, 101, 102, 103, 104, 105, 106, 107, 237, 238, 239, 240, 241, 242, 243, 244, 245, 246, 247, 248, 249, 250, 251, 252, 253, 254] (by decide +kernel) (by decide +kernel)) (goodIn_sub (fun _ h => List.mem_cons_of_mem _ (List.mem_append_right _ h)) (by decide +kernel))
set_option maxRecDepth 20000 in
theorem gL_same_X4_about : GoodIn wsL_same (wsV RL 93 RX4 yX4_about wsX4_about) := goodIn_app (goodIn_of _ (by decide +kernel)) ggL_same_X4_about
set_option maxRecDepth 20000 in
theorem ggL_same_X4_answer : GoodIn wsL_same wsX4_answer := goodIn_ca (goodIn_ca (goodIn_r _ [223, 112, 113, 25, 224, 225, 226, 23, 227, 30, 31, 228, 229, 230, 35, 231, 162, 232, 70, 71, 72, 73, 237, 238, 239, 240, 241, 242, 243, 244, 245, 246, 247, 248, 249, 250, 251, 252] (by decide +kernel) (by decide +kernel)) (goodIn_sub (fun _ h => List.mem_cons_of_mem _ (List.mem_append_right _ h)) (by decide +kernel))) (goodIn_sub (fun _ h => List.mem_cons_of_mem _ (List.mem_append_left _ (List.mem_append_right _ h))) (by decide +kernel))
set_option maxRecDepth 20000 in
theorem gL_same_X4_answer : GoodIn wsL_same (wsV RL 95 RX4 yX4_answer wsX4_answer) := goodIn_app (goodIn_of _ (by decide +kernel)) ggL_same_X4_answer
set_option maxRecDepth 20000 in
theorem ggL_same_L_bits : GoodIn wsL_same wsL_bits := goodIn_r _ [13] (by decide +kernel) (by decide +kernel)
set_option maxRecDepth 20000 in
theorem gL_same_L_bits : GoodIn wsL_same (va_wsS RL 22 yL_bits wsL_bits) := goodIn_app (goodIn_of _ (by decide +kernel)) ggL_same_L_bits
set_option maxRecDepth 20000 in
theorem ggL_same_X4_leastWorth : GoodIn wsL_same wsX4_leastWorth := goodIn_r _ [236, 25, 201, 47, 48, 49, 50, 51, 52, 53, 54, 55, 56, 57, 58, 59, 60, 61, 62, 63, 64, 65, 66, 67, 68, 69, 70, 71, 35, 72, 73, 74, 75, 76, 77, 78, 79, 80, 81, 82, 83, 84, 85, 86, 87, 88, 89, 90, 91, 92, 93, 94, 95, 216, 217, 218, 219, 118, 97, 98, 99, 100, 101, 102, 103, 104, 105, 106, 107, 237, 238, 239, 240, 241, 242, 243, 244, 245, 246, 247, 248, 249, 250, 251, 252, 253, 254] (by decide +kernel) (by decide +kernel)
set_option maxRecDepth 20000 in
theorem gL_same_X4_leastWorth : GoodIn wsL_same (wsV RL 98 RX4 yX4_leastWorth wsX4_leastWorth) := goodIn_app (goodIn_of _ (by decide +kernel)) ggL_same_X4_leastWorth
