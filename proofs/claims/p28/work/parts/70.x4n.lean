set_option maxRecDepth 20000 in
theorem ggX4_init_X3_init : GoodIn wsX4_init wsX3_init := goodIn_r _ [23, 24, 2, 3, 25, 26, 54, 55, 56, 57] (by decide +kernel) (by decide +kernel)
set_option maxRecDepth 20000 in
theorem gX4_init_X3_init_n9 : GoodIn wsX4_init (wsX3_init) := ggX4_init_X3_init
set_option maxRecDepth 20000 in
theorem ggX4_init_X0_init : GoodIn wsX4_init wsX0_init := goodIn_r _ [28, 29, 2, 3, 30, 31, 64, 65, 66, 67, 68, 69, 70, 71, 72, 73] (by decide +kernel) (by decide +kernel)
set_option maxRecDepth 20000 in
theorem gX4_init_X0_init_n18 : GoodIn wsX4_init (wsX0_init) := ggX4_init_X0_init
set_option maxRecDepth 20000 in
theorem ggX4_init_X1_init : GoodIn wsX4_init wsX1_init := goodIn_r _ [33, 34, 2, 3, 30, 35, 74, 75] (by decide +kernel) (by decide +kernel)
set_option maxRecDepth 20000 in
theorem gX4_init_X1_init_n28 : GoodIn wsX4_init (wsX1_init) := ggX4_init_X1_init
set_option maxRecDepth 20000 in
theorem ggX4_init_X2_init : GoodIn wsX4_init wsX2_init := goodIn_r _ [37, 38, 2, 3, 39, 40, 76, 77, 78] (by decide +kernel) (by decide +kernel)
set_option maxRecDepth 20000 in
theorem gX4_init_X2_init_n35 : GoodIn wsX4_init (wsX2_init) := ggX4_init_X2_init
set_option maxRecDepth 20000 in
theorem ggX4_init_X0_makeNew : GoodIn wsX4_init wsX0_makeNew := goodIn_r _ [44, 45, 46, 47, 48, 49, 50, 51, 52, 53, 64, 65, 66, 67, 68, 69, 70, 71, 72, 73] (by decide +kernel) (by decide +kernel)
set_option maxRecDepth 20000 in
theorem gX4_init_X0_makeNew : GoodIn wsX4_init (wsV RX4 44 RX0 yX0_makeNew wsX0_makeNew) := goodIn_app (goodIn_of _ (by decide +kernel)) ggX4_init_X0_makeNew
theorem dX4_init_0 : decode cX4_init 0 = .ok (.aload_n 0, 1) := by decide +kernel
theorem dX4_init_1 : decode cX4_init 1 = .ok (.invokespecial 1, 3) := by decide +kernel
theorem dX4_init_4 : decode cX4_init 4 = .ok (.aload_n 0, 1) := by decide +kernel
theorem dX4_init_5 : decode cX4_init 5 = .ok (.new 7, 3) := by decide +kernel
theorem dX4_init_8 : decode cX4_init 8 = .ok (.dup, 1) := by decide +kernel
theorem dX4_init_9 : decode cX4_init 9 = .ok (.invokespecial 9, 3) := by decide +kernel
theorem dX4_init_12 : decode cX4_init 12 = .ok (.putfield 10, 3) := by decide +kernel
theorem dX4_init_15 : decode cX4_init 15 = .ok (.aload_n 0, 1) := by decide +kernel
theorem dX4_init_16 : decode cX4_init 16 = .ok (.new 16, 3) := by decide +kernel
theorem dX4_init_19 : decode cX4_init 19 = .ok (.dup, 1) := by decide +kernel
theorem dX4_init_20 : decode cX4_init 20 = .ok (.invokespecial 18, 3) := by decide +kernel
theorem dX4_init_23 : decode cX4_init 23 = .ok (.putfield 19, 3) := by decide +kernel
theorem dX4_init_26 : decode cX4_init 26 = .ok (.aload_n 0, 1) := by decide +kernel
theorem dX4_init_27 : decode cX4_init 27 = .ok (.new 16, 3) := by decide +kernel
theorem dX4_init_30 : decode cX4_init 30 = .ok (.dup, 1) := by decide +kernel
theorem dX4_init_31 : decode cX4_init 31 = .ok (.invokespecial 18, 3) := by decide +kernel
theorem dX4_init_34 : decode cX4_init 34 = .ok (.putfield 23, 3) := by decide +kernel
theorem dX4_init_37 : decode cX4_init 37 = .ok (.aload_n 0, 1) := by decide +kernel
theorem dX4_init_38 : decode cX4_init 38 = .ok (.new 26, 3) := by decide +kernel
theorem dX4_init_41 : decode cX4_init 41 = .ok (.dup, 1) := by decide +kernel
theorem dX4_init_42 : decode cX4_init 42 = .ok (.invokespecial 28, 3) := by decide +kernel
theorem dX4_init_45 : decode cX4_init 45 = .ok (.putfield 29, 3) := by decide +kernel
theorem dX4_init_48 : decode cX4_init 48 = .ok (.aload_n 0, 1) := by decide +kernel
theorem dX4_init_49 : decode cX4_init 49 = .ok (.new 33, 3) := by decide +kernel
theorem dX4_init_52 : decode cX4_init 52 = .ok (.dup, 1) := by decide +kernel
theorem dX4_init_53 : decode cX4_init 53 = .ok (.invokespecial 35, 3) := by decide +kernel
theorem dX4_init_56 : decode cX4_init 56 = .ok (.putfield 36, 3) := by decide +kernel
theorem dX4_init_59 : decode cX4_init 59 = .ok (.aload_n 0, 1) := by decide +kernel
theorem dX4_init_60 : decode cX4_init 60 = .ok (.iconst 2, 1) := by decide +kernel
theorem dX4_init_61 : decode cX4_init 61 = .ok (.anewarray 16, 3) := by decide +kernel
theorem dX4_init_64 : decode cX4_init 64 = .ok (.putfield 40, 3) := by decide +kernel
theorem dX4_init_67 : decode cX4_init 67 = .ok (.aload_n 0, 1) := by decide +kernel
theorem dX4_init_68 : decode cX4_init 68 = .ok (.getfield 19, 3) := by decide +kernel
theorem dX4_init_71 : decode cX4_init 71 = .ok (.bipush 16, 2) := by decide +kernel
theorem dX4_init_73 : decode cX4_init 73 = .ok (.invokevirtual 44, 3) := by decide +kernel
theorem dX4_init_76 : decode cX4_init 76 = .ok (.return_, 1) := by decide +kernel
set_option maxRecDepth 20000 in
theorem ggX4_about_X0_countKeys : GoodIn wsX4_about wsX0_countKeys := goodIn_r _ [17, 18, 19, 20, 21, 22, 23, 24, 25, 96, 97, 98, 99, 100, 101, 102, 103, 104, 105] (by decide +kernel) (by decide +kernel)
set_option maxRecDepth 20000 in
theorem gX4_about_X0_countKeys : GoodIn wsX4_about (wsV RX4 95 RX0 yX0_countKeys wsX0_countKeys) := goodIn_app (goodIn_of _ (by decide +kernel)) ggX4_about_X0_countKeys
set_option maxRecDepth 20000 in
theorem ggX4_about_X1_learnFrom : GoodIn wsX4_about wsX1_learnFrom := goodIn_r _ [30, 31, 32, 33, 34, 35, 36, 29, 37, 38, 39, 40, 41, 42, 43, 44, 45, 46, 47, 48, 49, 16, 50, 51, 52, 53, 54, 55, 56, 57, 58, 59, 60, 61, 62, 63, 64, 65, 66, 67, 68, 69, 70, 71, 72, 73, 96, 97, 98, 99, 100, 101, 102, 103, 104, 105, 106, 107] (by decide +kernel) (by decide +kernel)
set_option maxRecDepth 20000 in
theorem gX4_about_X1_learnFrom : GoodIn wsX4_about (wsV RX4 119 RX1 yX1_learnFrom wsX1_learnFrom) := goodIn_app (goodIn_of _ (by decide +kernel)) ggX4_about_X1_learnFrom
set_option maxRecDepth 20000 in
theorem ggX4_about_X1_countSure : GoodIn wsX4_about wsX1_countSure := goodIn_r _ [77, 32, 78, 79, 80, 29, 81, 82, 83, 84, 85, 62, 63, 64, 65, 46, 86, 87, 88, 89, 106, 107] (by decide +kernel) (by decide +kernel)
set_option maxRecDepth 20000 in
theorem gX4_about_X1_countSure : GoodIn wsX4_about (wsV RX4 123 RX1 yX1_countSure wsX1_countSure) := goodIn_app (goodIn_of _ (by decide +kernel)) ggX4_about_X1_countSure
theorem dX4_about_0 : decode cX4_about 0 = .ok (.iload_n 1, 1) := by decide +kernel
theorem dX4_about_1 : decode cX4_about 1 = .ok (.tableswitch 147 0 9 #[55, 63, 71, 79, 87, 95, 103, 111, 119, 127], 55) := by decide +kernel
theorem dX4_about_56 : decode cX4_about 56 = .ok (.aload_n 0, 1) := by decide +kernel
theorem dX4_about_57 : decode cX4_about 57 = .ok (.getfield 19, 3) := by decide +kernel
theorem dX4_about_60 : decode cX4_about 60 = .ok (.getfield 91, 3) := by decide +kernel
theorem dX4_about_63 : decode cX4_about 63 = .ok (.ireturn, 1) := by decide +kernel
theorem dX4_about_64 : decode cX4_about 64 = .ok (.aload_n 0, 1) := by decide +kernel
theorem dX4_about_65 : decode cX4_about 65 = .ok (.getfield 19, 3) := by decide +kernel
theorem dX4_about_68 : decode cX4_about 68 = .ok (.invokevirtual 95, 3) := by decide +kernel
theorem dX4_about_71 : decode cX4_about 71 = .ok (.ireturn, 1) := by decide +kernel
theorem dX4_about_72 : decode cX4_about 72 = .ok (.aload_n 0, 1) := by decide +kernel
theorem dX4_about_73 : decode cX4_about 73 = .ok (.getfield 19, 3) := by decide +kernel
theorem dX4_about_76 : decode cX4_about 76 = .ok (.getfield 98, 3) := by decide +kernel
theorem dX4_about_79 : decode cX4_about 79 = .ok (.ireturn, 1) := by decide +kernel
theorem dX4_about_80 : decode cX4_about 80 = .ok (.aload_n 0, 1) := by decide +kernel
theorem dX4_about_81 : decode cX4_about 81 = .ok (.getfield 19, 3) := by decide +kernel
theorem dX4_about_84 : decode cX4_about 84 = .ok (.getfield 101, 3) := by decide +kernel
theorem dX4_about_87 : decode cX4_about 87 = .ok (.ireturn, 1) := by decide +kernel
theorem dX4_about_88 : decode cX4_about 88 = .ok (.aload_n 0, 1) := by decide +kernel
theorem dX4_about_89 : decode cX4_about 89 = .ok (.getfield 19, 3) := by decide +kernel
theorem dX4_about_92 : decode cX4_about 92 = .ok (.getfield 104, 3) := by decide +kernel
theorem dX4_about_95 : decode cX4_about 95 = .ok (.ireturn, 1) := by decide +kernel
theorem dX4_about_96 : decode cX4_about 96 = .ok (.aload_n 0, 1) := by decide +kernel
theorem dX4_about_97 : decode cX4_about 97 = .ok (.getfield 19, 3) := by decide +kernel
theorem dX4_about_100 : decode cX4_about 100 = .ok (.getfield 107, 3) := by decide +kernel
theorem dX4_about_103 : decode cX4_about 103 = .ok (.ireturn, 1) := by decide +kernel
theorem dX4_about_104 : decode cX4_about 104 = .ok (.aload_n 0, 1) := by decide +kernel
theorem dX4_about_105 : decode cX4_about 105 = .ok (.getfield 19, 3) := by decide +kernel
theorem dX4_about_108 : decode cX4_about 108 = .ok (.getfield 110, 3) := by decide +kernel
theorem dX4_about_111 : decode cX4_about 111 = .ok (.ireturn, 1) := by decide +kernel
theorem dX4_about_112 : decode cX4_about 112 = .ok (.aload_n 0, 1) := by decide +kernel
theorem dX4_about_113 : decode cX4_about 113 = .ok (.getfield 19, 3) := by decide +kernel
theorem dX4_about_116 : decode cX4_about 116 = .ok (.getfield 113, 3) := by decide +kernel
theorem dX4_about_119 : decode cX4_about 119 = .ok (.ireturn, 1) := by decide +kernel
theorem dX4_about_120 : decode cX4_about 120 = .ok (.aload_n 0, 1) := by decide +kernel
theorem dX4_about_121 : decode cX4_about 121 = .ok (.getfield 19, 3) := by decide +kernel
theorem dX4_about_124 : decode cX4_about 124 = .ok (.getfield 116, 3) := by decide +kernel
theorem dX4_about_127 : decode cX4_about 127 = .ok (.ireturn, 1) := by decide +kernel
theorem dX4_about_128 : decode cX4_about 128 = .ok (.aload_n 0, 1) := by decide +kernel
theorem dX4_about_129 : decode cX4_about 129 = .ok (.getfield 29, 3) := by decide +kernel
theorem dX4_about_132 : decode cX4_about 132 = .ok (.aload_n 0, 1) := by decide +kernel
theorem dX4_about_133 : decode cX4_about 133 = .ok (.getfield 19, 3) := by decide +kernel
theorem dX4_about_136 : decode cX4_about 136 = .ok (.iconst (-1), 1) := by decide +kernel
theorem dX4_about_137 : decode cX4_about 137 = .ok (.invokevirtual 119, 3) := by decide +kernel
theorem dX4_about_140 : decode cX4_about 140 = .ok (.aload_n 0, 1) := by decide +kernel
theorem dX4_about_141 : decode cX4_about 141 = .ok (.getfield 29, 3) := by decide +kernel
theorem dX4_about_144 : decode cX4_about 144 = .ok (.invokevirtual 123, 3) := by decide +kernel
theorem dX4_about_147 : decode cX4_about 147 = .ok (.ireturn, 1) := by decide +kernel
theorem dX4_about_148 : decode cX4_about 148 = .ok (.new 48, 3) := by decide +kernel
theorem dX4_about_151 : decode cX4_about 151 = .ok (.dup, 1) := by decide +kernel
theorem dX4_about_152 : decode cX4_about 152 = .ok (.ldc 126, 2) := by decide +kernel
theorem dX4_about_154 : decode cX4_about 154 = .ok (.invokespecial 52, 3) := by decide +kernel
theorem dX4_about_157 : decode cX4_about 157 = .ok (.athrow, 1) := by decide +kernel
set_option maxRecDepth 20000 in
theorem ggX4_has_X4_checkPlace : GoodIn wsX4_has wsX4_checkPlace := goodIn_ca (goodIn_r _ [6, 7, 8, 1, 9, 10, 11, 12, 13, 14, 20, 21, 22, 23, 24, 25, 26, 27, 28, 29, 30, 31, 32, 33, 34, 35] (by decide +kernel) (by decide +kernel)) (goodIn_sub (fun _ h => List.mem_cons_of_mem _ (List.mem_append_right _ h)) (by decide +kernel))
set_option maxRecDepth 20000 in
theorem gX4_has_X4_checkPlace : GoodIn wsX4_has (wsV RX4 128 RX4 yX4_checkPlace wsX4_checkPlace) := goodIn_app (goodIn_of _ (by decide +kernel)) ggX4_has_X4_checkPlace
set_option maxRecDepth 20000 in
theorem ggX4_has_X0_hasKey : GoodIn wsX4_has wsX0_hasKey := goodIn_r _ [18, 19, 26, 27, 28, 29, 30, 31, 32, 33, 34, 35] (by decide +kernel) (by decide +kernel)
set_option maxRecDepth 20000 in
theorem gX4_has_X0_hasKey : GoodIn wsX4_has (wsV RX4 131 RX0 yX0_hasKey wsX0_hasKey) := goodIn_app (goodIn_of _ (by decide +kernel)) ggX4_has_X0_hasKey
theorem dX4_has_0 : decode cX4_has 0 = .ok (.aload_n 0, 1) := by decide +kernel
theorem dX4_has_1 : decode cX4_has 1 = .ok (.iload_n 1, 1) := by decide +kernel
theorem dX4_has_2 : decode cX4_has 2 = .ok (.invokevirtual 128, 3) := by decide +kernel
theorem dX4_has_5 : decode cX4_has 5 = .ok (.aload_n 0, 1) := by decide +kernel
theorem dX4_has_6 : decode cX4_has 6 = .ok (.getfield 19, 3) := by decide +kernel
theorem dX4_has_9 : decode cX4_has 9 = .ok (.iload_n 1, 1) := by decide +kernel
theorem dX4_has_10 : decode cX4_has 10 = .ok (.invokevirtual 131, 3) := by decide +kernel
theorem dX4_has_13 : decode cX4_has 13 = .ok (.ireturn, 1) := by decide +kernel
set_option maxRecDepth 20000 in
theorem ggX4_answer_X4_checkAnswer : GoodIn wsX4_answer wsX4_checkAnswer := goodIn_ca (goodIn_r _ [8, 9, 10, 3, 11, 12, 13, 14, 15, 16, 22, 23, 24, 25, 26, 27, 28, 29, 30, 31, 32, 33, 34, 35, 36, 37] (by decide +kernel) (by decide +kernel)) (goodIn_sub (fun _ h => List.mem_cons_of_mem _ (List.mem_append_right _ h)) (by decide +kernel))
set_option maxRecDepth 20000 in
theorem gX4_answer_X4_checkAnswer : GoodIn wsX4_answer (wsV RX4 135 RX4 yX4_checkAnswer wsX4_checkAnswer) := goodIn_app (goodIn_of _ (by decide +kernel)) ggX4_answer_X4_checkAnswer
set_option maxRecDepth 20000 in
theorem ggX4_answer_X0_cell : GoodIn wsX4_answer wsX0_cell := goodIn_r _ [20, 21, 28, 29, 30, 31, 32, 33, 34, 35, 36, 37] (by decide +kernel) (by decide +kernel)
set_option maxRecDepth 20000 in
theorem gX4_answer_X0_cell : GoodIn wsX4_answer (wsV RX4 140 RX0 yX0_cell wsX0_cell) := goodIn_app (goodIn_of _ (by decide +kernel)) ggX4_answer_X0_cell
theorem dX4_answer_0 : decode cX4_answer 0 = .ok (.aload_n 0, 1) := by decide +kernel
theorem dX4_answer_1 : decode cX4_answer 1 = .ok (.iload_n 1, 1) := by decide +kernel
theorem dX4_answer_2 : decode cX4_answer 2 = .ok (.invokevirtual 135, 3) := by decide +kernel
theorem dX4_answer_5 : decode cX4_answer 5 = .ok (.iload_n 2, 1) := by decide +kernel
theorem dX4_answer_6 : decode cX4_answer 6 = .ok (.ifCond .lt 8, 3) := by decide +kernel
theorem dX4_answer_9 : decode cX4_answer 9 = .ok (.iload_n 2, 1) := by decide +kernel
theorem dX4_answer_10 : decode cX4_answer 10 = .ok (.iconst 4, 1) := by decide +kernel
theorem dX4_answer_11 : decode cX4_answer 11 = .ok (.if_icmp .lt 13, 3) := by decide +kernel
theorem dX4_answer_14 : decode cX4_answer 14 = .ok (.new 48, 3) := by decide +kernel
theorem dX4_answer_17 : decode cX4_answer 17 = .ok (.dup, 1) := by decide +kernel
theorem dX4_answer_18 : decode cX4_answer 18 = .ok (.ldc 138, 2) := by decide +kernel
theorem dX4_answer_20 : decode cX4_answer 20 = .ok (.invokespecial 52, 3) := by decide +kernel
theorem dX4_answer_23 : decode cX4_answer 23 = .ok (.athrow, 1) := by decide +kernel
theorem dX4_answer_24 : decode cX4_answer 24 = .ok (.aload_n 0, 1) := by decide +kernel
theorem dX4_answer_25 : decode cX4_answer 25 = .ok (.getfield 19, 3) := by decide +kernel
theorem dX4_answer_28 : decode cX4_answer 28 = .ok (.iload_n 1, 1) := by decide +kernel
theorem dX4_answer_29 : decode cX4_answer 29 = .ok (.iload_n 2, 1) := by decide +kernel
theorem dX4_answer_30 : decode cX4_answer 30 = .ok (.invokevirtual 140, 3) := by decide +kernel
theorem dX4_answer_33 : decode cX4_answer 33 = .ok (.ireturn, 1) := by decide +kernel
set_option maxRecDepth 20000 in
theorem ggX4_least_X4_checkRange : GoodIn wsX4_least wsX4_checkRange := goodIn_ca (goodIn_ca (goodIn_r _ [7, 8, 9, 10, 11, 12, 6, 13, 14, 15, 2, 16, 17, 18, 19, 20, 21, 74, 75, 76, 77, 78, 79, 80, 81, 82, 83, 84, 85, 86, 87, 88, 89] (by decide +kernel) (by decide +kernel)) (goodIn_sub (fun _ h => List.mem_cons_of_mem _ (List.mem_append_left _ (List.mem_append_right _ h))) (by decide +kernel))) (goodIn_sub (fun _ h => List.mem_cons_of_mem _ (List.mem_append_right _ h)) (by decide +kernel))
set_option maxRecDepth 20000 in
theorem gX4_least_X4_checkRange : GoodIn wsX4_least (wsV RX4 144 RX4 yX4_checkRange wsX4_checkRange) := goodIn_app (goodIn_of _ (by decide +kernel)) ggX4_least_X4_checkRange
set_option maxRecDepth 20000 in
theorem ggX4_least_X1_learnFrom : GoodIn wsX4_least wsX1_learnFrom := goodIn_r _ [26, 27, 28, 29, 30, 31, 32, 25, 33, 34, 35, 36, 37, 38, 39, 40, 41, 42, 43, 44, 45, 19, 46, 47, 48, 49, 50, 51, 52, 53, 54, 55, 56, 57, 58, 59, 60, 61, 62, 63, 64, 65, 66, 67, 68, 69, 80, 81, 82, 83, 84, 85, 86, 87, 88, 89, 90, 91] (by decide +kernel) (by decide +kernel)
set_option maxRecDepth 20000 in
theorem gX4_least_X1_learnFrom : GoodIn wsX4_least (wsV RX4 119 RX1 yX1_learnFrom wsX1_learnFrom) := goodIn_app (goodIn_of _ (by decide +kernel)) ggX4_least_X1_learnFrom
set_option maxRecDepth 20000 in
theorem ggX4_least_X1_fewestKeys : GoodIn wsX4_least wsX1_fewestKeys := goodIn_r _ [73, 58, 59, 60, 25, 61, 42, 90, 91] (by decide +kernel) (by decide +kernel)
set_option maxRecDepth 20000 in
theorem gX4_least_X1_fewestKeys : GoodIn wsX4_least (wsV RX4 148 RX1 yX1_fewestKeys wsX1_fewestKeys) := goodIn_app (goodIn_of _ (by decide +kernel)) ggX4_least_X1_fewestKeys
theorem dX4_least_0 : decode cX4_least 0 = .ok (.aload_n 0, 1) := by decide +kernel
theorem dX4_least_1 : decode cX4_least 1 = .ok (.iload_n 1, 1) := by decide +kernel
theorem dX4_least_2 : decode cX4_least 2 = .ok (.iload_n 2, 1) := by decide +kernel
theorem dX4_least_3 : decode cX4_least 3 = .ok (.invokevirtual 144, 3) := by decide +kernel
theorem dX4_least_6 : decode cX4_least 6 = .ok (.aload_n 0, 1) := by decide +kernel
theorem dX4_least_7 : decode cX4_least 7 = .ok (.getfield 29, 3) := by decide +kernel
theorem dX4_least_10 : decode cX4_least 10 = .ok (.aload_n 0, 1) := by decide +kernel
theorem dX4_least_11 : decode cX4_least 11 = .ok (.getfield 19, 3) := by decide +kernel
theorem dX4_least_14 : decode cX4_least 14 = .ok (.iconst (-1), 1) := by decide +kernel
theorem dX4_least_15 : decode cX4_least 15 = .ok (.invokevirtual 119, 3) := by decide +kernel
theorem dX4_least_18 : decode cX4_least 18 = .ok (.aload_n 0, 1) := by decide +kernel
theorem dX4_least_19 : decode cX4_least 19 = .ok (.getfield 29, 3) := by decide +kernel
theorem dX4_least_22 : decode cX4_least 22 = .ok (.iload_n 1, 1) := by decide +kernel
theorem dX4_least_23 : decode cX4_least 23 = .ok (.iload_n 2, 1) := by decide +kernel
theorem dX4_least_24 : decode cX4_least 24 = .ok (.invokevirtual 148, 3) := by decide +kernel
theorem dX4_least_27 : decode cX4_least 27 = .ok (.ireturn, 1) := by decide +kernel
set_option maxRecDepth 20000 in
theorem ggX4_most_X4_checkRange : GoodIn wsX4_most wsX4_checkRange := goodIn_ca (goodIn_ca (goodIn_r _ [7, 8, 9, 10, 11, 12, 6, 13, 14, 15, 2, 16, 17, 18, 19, 20, 21, 74, 75, 76, 77, 78, 79, 80, 81, 82, 83, 84, 85, 86, 87, 88, 89] (by decide +kernel) (by decide +kernel)) (goodIn_sub (fun _ h => List.mem_cons_of_mem _ (List.mem_append_left _ (List.mem_append_right _ h))) (by decide +kernel))) (goodIn_sub (fun _ h => List.mem_cons_of_mem _ (List.mem_append_right _ h)) (by decide +kernel))
set_option maxRecDepth 20000 in
theorem gX4_most_X4_checkRange : GoodIn wsX4_most (wsV RX4 144 RX4 yX4_checkRange wsX4_checkRange) := goodIn_app (goodIn_of _ (by decide +kernel)) ggX4_most_X4_checkRange
set_option maxRecDepth 20000 in
theorem ggX4_most_X1_learnFrom : GoodIn wsX4_most wsX1_learnFrom := goodIn_r _ [26, 27, 28, 29, 30, 31, 32, 25, 33, 34, 35, 36, 37, 38, 39, 40, 41, 42, 43, 44, 45, 19, 46, 47, 48, 49, 50, 51, 52, 53, 54, 55, 56, 57, 58, 59, 60, 61, 62, 63, 64, 65, 66, 67, 68, 69, 80, 81, 82, 83, 84, 85, 86, 87, 88, 89, 90, 91] (by decide +kernel) (by decide +kernel)
set_option maxRecDepth 20000 in
theorem gX4_most_X1_learnFrom : GoodIn wsX4_most (wsV RX4 119 RX1 yX1_learnFrom wsX1_learnFrom) := goodIn_app (goodIn_of _ (by decide +kernel)) ggX4_most_X1_learnFrom
set_option maxRecDepth 20000 in
theorem ggX4_most_X1_greatestKeys : GoodIn wsX4_most wsX1_greatestKeys := goodIn_r _ [73, 58, 59, 60, 25, 61, 42, 90, 91] (by decide +kernel) (by decide +kernel)
set_option maxRecDepth 20000 in
theorem gX4_most_X1_greatestKeys : GoodIn wsX4_most (wsV RX4 151 RX1 yX1_greatestKeys wsX1_greatestKeys) := goodIn_app (goodIn_of _ (by decide +kernel)) ggX4_most_X1_greatestKeys
theorem dX4_most_0 : decode cX4_most 0 = .ok (.aload_n 0, 1) := by decide +kernel
theorem dX4_most_1 : decode cX4_most 1 = .ok (.iload_n 1, 1) := by decide +kernel
theorem dX4_most_2 : decode cX4_most 2 = .ok (.iload_n 2, 1) := by decide +kernel
theorem dX4_most_3 : decode cX4_most 3 = .ok (.invokevirtual 144, 3) := by decide +kernel
theorem dX4_most_6 : decode cX4_most 6 = .ok (.aload_n 0, 1) := by decide +kernel
theorem dX4_most_7 : decode cX4_most 7 = .ok (.getfield 29, 3) := by decide +kernel
theorem dX4_most_10 : decode cX4_most 10 = .ok (.aload_n 0, 1) := by decide +kernel
theorem dX4_most_11 : decode cX4_most 11 = .ok (.getfield 19, 3) := by decide +kernel
theorem dX4_most_14 : decode cX4_most 14 = .ok (.iconst (-1), 1) := by decide +kernel
theorem dX4_most_15 : decode cX4_most 15 = .ok (.invokevirtual 119, 3) := by decide +kernel
theorem dX4_most_18 : decode cX4_most 18 = .ok (.aload_n 0, 1) := by decide +kernel
theorem dX4_most_19 : decode cX4_most 19 = .ok (.getfield 29, 3) := by decide +kernel
theorem dX4_most_22 : decode cX4_most 22 = .ok (.iload_n 1, 1) := by decide +kernel
theorem dX4_most_23 : decode cX4_most 23 = .ok (.iload_n 2, 1) := by decide +kernel
theorem dX4_most_24 : decode cX4_most 24 = .ok (.invokevirtual 151, 3) := by decide +kernel
theorem dX4_most_27 : decode cX4_most 27 = .ok (.ireturn, 1) := by decide +kernel
set_option maxRecDepth 20000 in
theorem ggX4_known_X4_checkPlace : GoodIn wsX4_known wsX4_checkPlace := goodIn_ca (goodIn_r _ [7, 8, 9, 2, 10, 11, 12, 13, 14, 15, 76, 77, 78, 79, 80, 81, 82, 83, 84, 85, 86, 87, 88, 89, 90, 91] (by decide +kernel) (by decide +kernel)) (goodIn_sub (fun _ h => List.mem_cons_of_mem _ (List.mem_append_right _ h)) (by decide +kernel))
set_option maxRecDepth 20000 in
theorem gX4_known_X4_checkPlace : GoodIn wsX4_known (wsV RX4 128 RX4 yX4_checkPlace wsX4_checkPlace) := goodIn_app (goodIn_of _ (by decide +kernel)) ggX4_known_X4_checkPlace
set_option maxRecDepth 20000 in
theorem ggX4_known_X1_learnFrom : GoodIn wsX4_known wsX1_learnFrom := goodIn_r _ [20, 21, 22, 23, 24, 25, 26, 19, 27, 28, 29, 30, 31, 32, 33, 34, 35, 36, 37, 38, 39, 13, 40, 41, 42, 43, 44, 45, 46, 47, 48, 49, 50, 51, 52, 53, 54, 55, 56, 57, 58, 59, 60, 61, 62, 63, 82, 83, 84, 85, 86, 87, 88, 89, 90, 91, 92, 93] (by decide +kernel) (by decide +kernel)
set_option maxRecDepth 20000 in
theorem gX4_known_X1_learnFrom : GoodIn wsX4_known (wsV RX4 119 RX1 yX1_learnFrom wsX1_learnFrom) := goodIn_app (goodIn_of _ (by decide +kernel)) ggX4_known_X1_learnFrom
set_option maxRecDepth 20000 in
theorem ggX4_known_X1_sure : GoodIn wsX4_known wsX1_sure := goodIn_r _ [67, 68, 69, 70, 19, 71, 52, 53, 54, 55, 36, 72, 73, 74, 75, 92, 93] (by decide +kernel) (by decide +kernel)
set_option maxRecDepth 20000 in
theorem gX4_known_X1_sure : GoodIn wsX4_known (wsV RX4 154 RX1 yX1_sure wsX1_sure) := goodIn_app (goodIn_of _ (by decide +kernel)) ggX4_known_X1_sure
theorem dX4_known_0 : decode cX4_known 0 = .ok (.aload_n 0, 1) := by decide +kernel
theorem dX4_known_1 : decode cX4_known 1 = .ok (.iload_n 1, 1) := by decide +kernel
theorem dX4_known_2 : decode cX4_known 2 = .ok (.invokevirtual 128, 3) := by decide +kernel
theorem dX4_known_5 : decode cX4_known 5 = .ok (.aload_n 0, 1) := by decide +kernel
theorem dX4_known_6 : decode cX4_known 6 = .ok (.getfield 29, 3) := by decide +kernel
theorem dX4_known_9 : decode cX4_known 9 = .ok (.aload_n 0, 1) := by decide +kernel
theorem dX4_known_10 : decode cX4_known 10 = .ok (.getfield 19, 3) := by decide +kernel
theorem dX4_known_13 : decode cX4_known 13 = .ok (.iconst (-1), 1) := by decide +kernel
theorem dX4_known_14 : decode cX4_known 14 = .ok (.invokevirtual 119, 3) := by decide +kernel
theorem dX4_known_17 : decode cX4_known 17 = .ok (.aload_n 0, 1) := by decide +kernel
theorem dX4_known_18 : decode cX4_known 18 = .ok (.getfield 29, 3) := by decide +kernel
theorem dX4_known_21 : decode cX4_known 21 = .ok (.iload_n 1, 1) := by decide +kernel
theorem dX4_known_22 : decode cX4_known 22 = .ok (.invokevirtual 154, 3) := by decide +kernel
theorem dX4_known_25 : decode cX4_known 25 = .ok (.ireturn, 1) := by decide +kernel
set_option maxRecDepth 20000 in
theorem ggX4_knownAt_X1_learnFrom : GoodIn wsX4_knownAt wsX1_learnFrom := goodIn_r _ [9, 10, 11, 12, 13, 14, 15, 8, 16, 17, 18, 19, 20, 21, 22, 23, 24, 25, 26, 27, 28, 29, 30, 31, 32, 33, 34, 35, 36, 37, 38, 39, 40, 41, 42, 43, 44, 45, 46, 47, 48, 49, 50, 51, 52, 53, 76, 77, 78, 79, 80, 81, 82, 83, 84, 85, 86, 87] (by decide +kernel) (by decide +kernel)
set_option maxRecDepth 20000 in
theorem gX4_knownAt_X1_learnFrom : GoodIn wsX4_knownAt (wsV RX4 119 RX1 yX1_learnFrom wsX1_learnFrom) := goodIn_app (goodIn_of _ (by decide +kernel)) ggX4_knownAt_X1_learnFrom
set_option maxRecDepth 20000 in
theorem ggX4_knownAt_X1_surePlace : GoodIn wsX4_knownAt wsX1_surePlace := goodIn_r _ [57, 11, 58, 59, 60, 8, 61, 62, 63, 64, 65, 42, 43, 44, 45, 25, 66, 67, 68, 69, 86, 87] (by decide +kernel) (by decide +kernel)
set_option maxRecDepth 20000 in
theorem gX4_knownAt_X1_surePlace : GoodIn wsX4_knownAt (wsV RX4 160 RX1 yX1_surePlace wsX1_surePlace) := goodIn_app (goodIn_of _ (by decide +kernel)) ggX4_knownAt_X1_surePlace
theorem dX4_knownAt_0 : decode cX4_knownAt 0 = .ok (.iload_n 1, 1) := by decide +kernel
theorem dX4_knownAt_1 : decode cX4_knownAt 1 = .ok (.ifCond .ge 13, 3) := by decide +kernel
theorem dX4_knownAt_4 : decode cX4_knownAt 4 = .ok (.new 48, 3) := by decide +kernel
theorem dX4_knownAt_7 : decode cX4_knownAt 7 = .ok (.dup, 1) := by decide +kernel
theorem dX4_knownAt_8 : decode cX4_knownAt 8 = .ok (.ldc 158, 2) := by decide +kernel
theorem dX4_knownAt_10 : decode cX4_knownAt 10 = .ok (.invokespecial 52, 3) := by decide +kernel
theorem dX4_knownAt_13 : decode cX4_knownAt 13 = .ok (.athrow, 1) := by decide +kernel
theorem dX4_knownAt_14 : decode cX4_knownAt 14 = .ok (.aload_n 0, 1) := by decide +kernel
theorem dX4_knownAt_15 : decode cX4_knownAt 15 = .ok (.getfield 29, 3) := by decide +kernel
theorem dX4_knownAt_18 : decode cX4_knownAt 18 = .ok (.aload_n 0, 1) := by decide +kernel
theorem dX4_knownAt_19 : decode cX4_knownAt 19 = .ok (.getfield 19, 3) := by decide +kernel
theorem dX4_knownAt_22 : decode cX4_knownAt 22 = .ok (.iconst (-1), 1) := by decide +kernel
theorem dX4_knownAt_23 : decode cX4_knownAt 23 = .ok (.invokevirtual 119, 3) := by decide +kernel
theorem dX4_knownAt_26 : decode cX4_knownAt 26 = .ok (.aload_n 0, 1) := by decide +kernel
theorem dX4_knownAt_27 : decode cX4_knownAt 27 = .ok (.getfield 29, 3) := by decide +kernel
theorem dX4_knownAt_30 : decode cX4_knownAt 30 = .ok (.iload_n 1, 1) := by decide +kernel
theorem dX4_knownAt_31 : decode cX4_knownAt 31 = .ok (.invokevirtual 160, 3) := by decide +kernel
theorem dX4_knownAt_34 : decode cX4_knownAt 34 = .ok (.ireturn, 1) := by decide +kernel
set_option maxRecDepth 20000 in
theorem ggX4_write_X4_checkPlace : GoodIn wsX4_write wsX4_checkPlace := goodIn_ca (goodIn_r _ [7, 8, 9, 2, 10, 11, 12, 13, 14, 15, 68, 69, 70, 71, 72, 73, 74, 75, 76, 77, 78, 79, 80, 81, 82, 83] (by decide +kernel) (by decide +kernel)) (goodIn_sub (fun _ h => List.mem_cons_of_mem _ (List.mem_append_right _ h)) (by decide +kernel))
set_option maxRecDepth 20000 in
theorem gX4_write_X4_checkPlace : GoodIn wsX4_write (wsV RX4 128 RX4 yX4_checkPlace wsX4_checkPlace) := goodIn_app (goodIn_of _ (by decide +kernel)) ggX4_write_X4_checkPlace
set_option maxRecDepth 20000 in
theorem ggX4_write_X2_remember : GoodIn wsX4_write wsX2_remember := goodIn_r _ [20, 21, 22, 23, 24, 13, 25, 26, 27, 28, 29, 30, 31, 32, 33, 34, 35, 36, 37, 38, 39, 40, 15, 41, 42, 43, 44, 45, 46, 47, 48, 84, 85, 86, 74, 75, 76, 77, 78, 79, 80, 81, 82, 83] (by decide +kernel) (by decide +kernel)
set_option maxRecDepth 20000 in
theorem gX4_write_X2_remember : GoodIn wsX4_write (wsV RX4 163 RX2 yX2_remember wsX2_remember) := goodIn_app (goodIn_of _ (by decide +kernel)) ggX4_write_X2_remember
set_option maxRecDepth 20000 in
theorem ggX4_write_X0_putKey : GoodIn wsX4_write wsX0_putKey := goodIn_r _ [52, 48, 44, 53, 54, 55, 13, 56, 57, 58, 59, 60, 36, 61, 62, 63, 64, 65, 66, 28, 67, 47, 74, 75, 76, 77, 78, 79, 80, 81, 82, 83] (by decide +kernel) (by decide +kernel)
set_option maxRecDepth 20000 in
theorem gX4_write_X0_putKey : GoodIn wsX4_write (wsV RX4 166 RX0 yX0_putKey wsX0_putKey) := goodIn_app (goodIn_of _ (by decide +kernel)) ggX4_write_X0_putKey
theorem dX4_write_0 : decode cX4_write 0 = .ok (.aload_n 0, 1) := by decide +kernel
theorem dX4_write_1 : decode cX4_write 1 = .ok (.iload_n 1, 1) := by decide +kernel
theorem dX4_write_2 : decode cX4_write 2 = .ok (.invokevirtual 128, 3) := by decide +kernel
theorem dX4_write_5 : decode cX4_write 5 = .ok (.aload_n 0, 1) := by decide +kernel
theorem dX4_write_6 : decode cX4_write 6 = .ok (.getfield 36, 3) := by decide +kernel
theorem dX4_write_9 : decode cX4_write 9 = .ok (.aload_n 0, 1) := by decide +kernel
theorem dX4_write_10 : decode cX4_write 10 = .ok (.getfield 19, 3) := by decide +kernel
theorem dX4_write_13 : decode cX4_write 13 = .ok (.invokevirtual 163, 3) := by decide +kernel
theorem dX4_write_16 : decode cX4_write 16 = .ok (.aload_n 0, 1) := by decide +kernel
theorem dX4_write_17 : decode cX4_write 17 = .ok (.getfield 19, 3) := by decide +kernel
theorem dX4_write_20 : decode cX4_write 20 = .ok (.iload_n 1, 1) := by decide +kernel
theorem dX4_write_21 : decode cX4_write 21 = .ok (.iload_n 2, 1) := by decide +kernel
theorem dX4_write_22 : decode cX4_write 22 = .ok (.invokevirtual 166, 3) := by decide +kernel
theorem dX4_write_25 : decode cX4_write 25 = .ok (.ireturn, 1) := by decide +kernel
set_option maxRecDepth 20000 in
theorem ggX4_set_X4_isSetting : GoodIn wsX4_set wsX4_isSetting := goodIn_r _ [8] (by decide +kernel) (by decide +kernel)
set_option maxRecDepth 20000 in
theorem gX4_set_X4_isSetting : GoodIn wsX4_set (va_wsS RX4 170 yX4_isSetting wsX4_isSetting) := goodIn_app (goodIn_of _ (by decide +kernel)) ggX4_set_X4_isSetting
set_option maxRecDepth 20000 in
theorem ggX4_set_X2_remember : GoodIn wsX4_set wsX2_remember := goodIn_r _ [13, 14, 15, 16, 17, 18, 19, 20, 21, 22, 23, 24, 25, 26, 27, 28, 29, 30, 31, 32, 33, 34, 35, 36, 37, 38, 39, 40, 41, 42, 43, 58, 59, 60, 61, 62, 63, 64, 65, 66, 67, 68, 69, 70] (by decide +kernel) (by decide +kernel)
set_option maxRecDepth 20000 in
theorem gX4_set_X2_remember : GoodIn wsX4_set (wsV RX4 163 RX2 yX2_remember wsX2_remember) := goodIn_app (goodIn_of _ (by decide +kernel)) ggX4_set_X2_remember
set_option maxRecDepth 20000 in
theorem ggX4_set_X0_change : GoodIn wsX4_set wsX0_change := goodIn_r _ [47, 36, 37, 38, 48, 49, 50, 18, 51, 42, 39, 61, 62, 63, 64, 65, 66, 67, 68, 69, 70] (by decide +kernel) (by decide +kernel)
set_option maxRecDepth 20000 in
theorem gX4_set_X0_change : GoodIn wsX4_set (wsV RX4 176 RX0 yX0_change wsX0_change) := goodIn_app (goodIn_of _ (by decide +kernel)) ggX4_set_X0_change
theorem dX4_set_0 : decode cX4_set 0 = .ok (.iload_n 1, 1) := by decide +kernel
theorem dX4_set_1 : decode cX4_set 1 = .ok (.iload_n 2, 1) := by decide +kernel
theorem dX4_set_2 : decode cX4_set 2 = .ok (.invokestatic 170, 3) := by decide +kernel
theorem dX4_set_5 : decode cX4_set 5 = .ok (.ifCond .ne 13, 3) := by decide +kernel
theorem dX4_set_8 : decode cX4_set 8 = .ok (.new 48, 3) := by decide +kernel
theorem dX4_set_11 : decode cX4_set 11 = .ok (.dup, 1) := by decide +kernel
theorem dX4_set_12 : decode cX4_set 12 = .ok (.ldc 174, 2) := by decide +kernel
theorem dX4_set_14 : decode cX4_set 14 = .ok (.invokespecial 52, 3) := by decide +kernel
theorem dX4_set_17 : decode cX4_set 17 = .ok (.athrow, 1) := by decide +kernel
theorem dX4_set_18 : decode cX4_set 18 = .ok (.aload_n 0, 1) := by decide +kernel
theorem dX4_set_19 : decode cX4_set 19 = .ok (.getfield 36, 3) := by decide +kernel
theorem dX4_set_22 : decode cX4_set 22 = .ok (.aload_n 0, 1) := by decide +kernel
theorem dX4_set_23 : decode cX4_set 23 = .ok (.getfield 19, 3) := by decide +kernel
theorem dX4_set_26 : decode cX4_set 26 = .ok (.invokevirtual 163, 3) := by decide +kernel
theorem dX4_set_29 : decode cX4_set 29 = .ok (.aload_n 0, 1) := by decide +kernel
theorem dX4_set_30 : decode cX4_set 30 = .ok (.getfield 19, 3) := by decide +kernel
theorem dX4_set_33 : decode cX4_set 33 = .ok (.iload_n 1, 1) := by decide +kernel
theorem dX4_set_34 : decode cX4_set 34 = .ok (.iload_n 2, 1) := by decide +kernel
theorem dX4_set_35 : decode cX4_set 35 = .ok (.invokevirtual 176, 3) := by decide +kernel
theorem dX4_set_38 : decode cX4_set 38 = .ok (.ireturn, 1) := by decide +kernel
set_option maxRecDepth 20000 in
theorem ggX4_ask_X4_checkRange : GoodIn wsX4_ask wsX4_checkRange := goodIn_ca (goodIn_ca (goodIn_r _ [9, 10, 11, 12, 13, 14, 8, 15, 16, 17, 3, 18, 19, 20, 21, 22, 23, 103, 104, 105, 106, 107, 108, 109, 110, 111, 112, 113, 114, 115, 116, 117, 118] (by decide +kernel) (by decide +kernel)) (goodIn_sub (fun _ h => List.mem_cons_of_mem _ (List.mem_append_left _ (List.mem_append_right _ h))) (by decide +kernel))) (goodIn_sub (fun _ h => List.mem_cons_of_mem _ (List.mem_append_right _ h)) (by decide +kernel))
set_option maxRecDepth 20000 in
theorem gX4_ask_X4_checkRange : GoodIn wsX4_ask (wsV RX4 144 RX4 yX4_checkRange wsX4_checkRange) := goodIn_app (goodIn_of _ (by decide +kernel)) ggX4_ask_X4_checkRange
set_option maxRecDepth 20000 in
theorem ggX4_ask_X0_isNarrow : GoodIn wsX4_ask wsX0_isNarrow := goodIn_r _ [27, 28, 109, 110, 111, 112, 113, 114, 115, 116, 117, 118] (by decide +kernel) (by decide +kernel)
set_option maxRecDepth 20000 in
theorem gX4_ask_X0_isNarrow : GoodIn wsX4_ask (wsV RX4 179 RX0 yX0_isNarrow wsX0_isNarrow) := goodIn_app (goodIn_of _ (by decide +kernel)) ggX4_ask_X0_isNarrow
set_option maxRecDepth 20000 in
theorem ggX4_ask_X2_remember : GoodIn wsX4_ask wsX2_remember := goodIn_r _ [33, 34, 35, 36, 37, 21, 38, 39, 40, 41, 42, 43, 44, 45, 46, 47, 48, 49, 50, 51, 52, 53, 23, 28, 54, 55, 56, 57, 58, 59, 60, 119, 120, 121, 109, 110, 111, 112, 113, 114, 115, 116, 117, 118] (by decide +kernel) (by decide +kernel)
set_option maxRecDepth 20000 in
theorem gX4_ask_X2_remember : GoodIn wsX4_ask (wsV RX4 163 RX2 yX2_remember wsX2_remember) := goodIn_app (goodIn_of _ (by decide +kernel)) ggX4_ask_X2_remember
set_option maxRecDepth 20000 in
theorem ggX4_ask_X0_question : GoodIn wsX4_ask wsX0_question := goodIn_r _ [64, 57, 58, 65, 66, 67, 21, 68, 60, 54, 69, 70, 71, 72, 73, 74, 75, 76, 77, 78, 79, 56, 80, 81, 82, 83, 49, 84, 85, 86, 87, 55, 88, 89, 90, 91, 92, 93, 94, 95, 96, 97, 41, 98, 59, 99, 100, 101, 102, 109, 110, 111, 112, 113, 114, 115, 116, 117, 118] (by decide +kernel) (by decide +kernel)
set_option maxRecDepth 20000 in
theorem gX4_ask_X0_question : GoodIn wsX4_ask (wsV RX4 184 RX0 yX0_question wsX0_question) := goodIn_app (goodIn_of _ (by decide +kernel)) ggX4_ask_X0_question
theorem dX4_ask_0 : decode cX4_ask 0 = .ok (.aload_n 0, 1) := by decide +kernel
theorem dX4_ask_1 : decode cX4_ask 1 = .ok (.iload_n 1, 1) := by decide +kernel
theorem dX4_ask_2 : decode cX4_ask 2 = .ok (.iload_n 2, 1) := by decide +kernel
theorem dX4_ask_3 : decode cX4_ask 3 = .ok (.invokevirtual 144, 3) := by decide +kernel
theorem dX4_ask_6 : decode cX4_ask 6 = .ok (.aload_n 0, 1) := by decide +kernel
theorem dX4_ask_7 : decode cX4_ask 7 = .ok (.getfield 19, 3) := by decide +kernel
theorem dX4_ask_10 : decode cX4_ask 10 = .ok (.iload_n 1, 1) := by decide +kernel
theorem dX4_ask_11 : decode cX4_ask 11 = .ok (.iload_n 2, 1) := by decide +kernel
theorem dX4_ask_12 : decode cX4_ask 12 = .ok (.invokevirtual 179, 3) := by decide +kernel
theorem dX4_ask_15 : decode cX4_ask 15 = .ok (.ifCond .eq 13, 3) := by decide +kernel
theorem dX4_ask_18 : decode cX4_ask 18 = .ok (.new 59, 3) := by decide +kernel
theorem dX4_ask_21 : decode cX4_ask 21 = .ok (.dup, 1) := by decide +kernel
theorem dX4_ask_22 : decode cX4_ask 22 = .ok (.ldc 182, 2) := by decide +kernel
theorem dX4_ask_24 : decode cX4_ask 24 = .ok (.invokespecial 63, 3) := by decide +kernel
theorem dX4_ask_27 : decode cX4_ask 27 = .ok (.athrow, 1) := by decide +kernel
theorem dX4_ask_28 : decode cX4_ask 28 = .ok (.aload_n 0, 1) := by decide +kernel
theorem dX4_ask_29 : decode cX4_ask 29 = .ok (.getfield 36, 3) := by decide +kernel
theorem dX4_ask_32 : decode cX4_ask 32 = .ok (.aload_n 0, 1) := by decide +kernel
theorem dX4_ask_33 : decode cX4_ask 33 = .ok (.getfield 19, 3) := by decide +kernel
theorem dX4_ask_36 : decode cX4_ask 36 = .ok (.invokevirtual 163, 3) := by decide +kernel
theorem dX4_ask_39 : decode cX4_ask 39 = .ok (.aload_n 0, 1) := by decide +kernel
theorem dX4_ask_40 : decode cX4_ask 40 = .ok (.getfield 19, 3) := by decide +kernel
theorem dX4_ask_43 : decode cX4_ask 43 = .ok (.iload_n 1, 1) := by decide +kernel
theorem dX4_ask_44 : decode cX4_ask 44 = .ok (.iload_n 2, 1) := by decide +kernel
theorem dX4_ask_45 : decode cX4_ask 45 = .ok (.invokevirtual 184, 3) := by decide +kernel
theorem dX4_ask_48 : decode cX4_ask 48 = .ok (.ireturn, 1) := by decide +kernel
set_option maxRecDepth 20000 in
theorem ggX4_forget_X4_checkAnswer : GoodIn wsX4_forget wsX4_checkAnswer := goodIn_ca (goodIn_r _ [8, 9, 10, 2, 11, 12, 13, 14, 15, 16, 57, 58, 59, 60, 61, 62, 63, 64, 65, 66, 67, 68, 69, 70, 71, 72] (by decide +kernel) (by decide +kernel)) (goodIn_sub (fun _ h => List.mem_cons_of_mem _ (List.mem_append_right _ h)) (by decide +kernel))
set_option maxRecDepth 20000 in
theorem gX4_forget_X4_checkAnswer : GoodIn wsX4_forget (wsV RX4 135 RX4 yX4_checkAnswer wsX4_checkAnswer) := goodIn_app (goodIn_of _ (by decide +kernel)) ggX4_forget_X4_checkAnswer
set_option maxRecDepth 20000 in
theorem ggX4_forget_X2_remember : GoodIn wsX4_forget wsX2_remember := goodIn_r _ [21, 22, 23, 24, 25, 14, 26, 27, 28, 29, 30, 31, 32, 33, 34, 35, 36, 37, 38, 39, 40, 41, 42, 43, 44, 45, 16, 46, 47, 48, 49, 73, 74, 75, 63, 64, 65, 66, 67, 68, 69, 70, 71, 72] (by decide +kernel) (by decide +kernel)
set_option maxRecDepth 20000 in
theorem gX4_forget_X2_remember : GoodIn wsX4_forget (wsV RX4 163 RX2 yX2_remember wsX2_remember) := goodIn_app (goodIn_of _ (by decide +kernel)) ggX4_forget_X2_remember
set_option maxRecDepth 20000 in
theorem ggX4_forget_X0_drop : GoodIn wsX4_forget wsX0_drop := goodIn_r _ [53, 54, 55, 29, 56, 37, 16, 48, 63, 64, 65, 66, 67, 68, 69, 70, 71, 72] (by decide +kernel) (by decide +kernel)
set_option maxRecDepth 20000 in
theorem gX4_forget_X0_drop : GoodIn wsX4_forget (wsV RX4 187 RX0 yX0_drop wsX0_drop) := goodIn_app (goodIn_of _ (by decide +kernel)) ggX4_forget_X0_drop
theorem dX4_forget_0 : decode cX4_forget 0 = .ok (.aload_n 0, 1) := by decide +kernel
theorem dX4_forget_1 : decode cX4_forget 1 = .ok (.iload_n 1, 1) := by decide +kernel
theorem dX4_forget_2 : decode cX4_forget 2 = .ok (.invokevirtual 135, 3) := by decide +kernel
theorem dX4_forget_5 : decode cX4_forget 5 = .ok (.aload_n 0, 1) := by decide +kernel
theorem dX4_forget_6 : decode cX4_forget 6 = .ok (.getfield 36, 3) := by decide +kernel
theorem dX4_forget_9 : decode cX4_forget 9 = .ok (.aload_n 0, 1) := by decide +kernel
theorem dX4_forget_10 : decode cX4_forget 10 = .ok (.getfield 19, 3) := by decide +kernel
theorem dX4_forget_13 : decode cX4_forget 13 = .ok (.invokevirtual 163, 3) := by decide +kernel
theorem dX4_forget_16 : decode cX4_forget 16 = .ok (.aload_n 0, 1) := by decide +kernel
theorem dX4_forget_17 : decode cX4_forget 17 = .ok (.getfield 19, 3) := by decide +kernel
theorem dX4_forget_20 : decode cX4_forget 20 = .ok (.iload_n 1, 1) := by decide +kernel
theorem dX4_forget_21 : decode cX4_forget 21 = .ok (.invokevirtual 187, 3) := by decide +kernel
theorem dX4_forget_24 : decode cX4_forget 24 = .ok (.aload_n 0, 1) := by decide +kernel
theorem dX4_forget_25 : decode cX4_forget 25 = .ok (.getfield 19, 3) := by decide +kernel
theorem dX4_forget_28 : decode cX4_forget 28 = .ok (.getfield 107, 3) := by decide +kernel
theorem dX4_forget_31 : decode cX4_forget 31 = .ok (.ireturn, 1) := by decide +kernel
set_option maxRecDepth 20000 in
theorem ggX4_resize_X2_remember : GoodIn wsX4_resize wsX2_remember := goodIn_r _ [9, 10, 11, 12, 13, 14, 15, 16, 17, 18, 19, 20, 21, 22, 23, 24, 25, 26, 27, 28, 29, 30, 31, 32, 33, 34, 35, 36, 37, 38, 39, 65, 66, 67, 68, 69, 70, 71, 72, 73, 74, 75, 76, 77] (by decide +kernel) (by decide +kernel)
set_option maxRecDepth 20000 in
theorem gX4_resize_X2_remember : GoodIn wsX4_resize (wsV RX4 163 RX2 yX2_remember wsX2_remember) := goodIn_app (goodIn_of _ (by decide +kernel)) ggX4_resize_X2_remember
set_option maxRecDepth 20000 in
theorem ggX4_resize_X0_cutTo : GoodIn wsX4_resize wsX0_cutTo := goodIn_r _ [43, 31, 39, 44, 45, 46, 14, 47, 38, 35, 68, 69, 70, 71, 72, 73, 74, 75, 76, 77] (by decide +kernel) (by decide +kernel)
set_option maxRecDepth 20000 in
theorem gX4_resize_X0_cutTo : GoodIn wsX4_resize (wsV RX4 192 RX0 yX0_cutTo wsX0_cutTo) := goodIn_app (goodIn_of _ (by decide +kernel)) ggX4_resize_X0_cutTo
set_option maxRecDepth 20000 in
theorem ggX4_resize_X0_countKeys : GoodIn wsX4_resize wsX0_countKeys := goodIn_r _ [51, 39, 52, 53, 54, 55, 56, 57, 58, 68, 69, 70, 71, 72, 73, 74, 75, 76, 77] (by decide +kernel) (by decide +kernel)
set_option maxRecDepth 20000 in
theorem gX4_resize_X0_countKeys : GoodIn wsX4_resize (wsV RX4 95 RX0 yX0_countKeys wsX0_countKeys) := goodIn_app (goodIn_of _ (by decide +kernel)) ggX4_resize_X0_countKeys
theorem dX4_resize_0 : decode cX4_resize 0 = .ok (.iload_n 1, 1) := by decide +kernel
theorem dX4_resize_1 : decode cX4_resize 1 = .ok (.bipush 8, 2) := by decide +kernel
theorem dX4_resize_3 : decode cX4_resize 3 = .ok (.if_icmp .lt 9, 3) := by decide +kernel
theorem dX4_resize_6 : decode cX4_resize 6 = .ok (.iload_n 1, 1) := by decide +kernel
theorem dX4_resize_7 : decode cX4_resize 7 = .ok (.bipush 40, 2) := by decide +kernel
theorem dX4_resize_9 : decode cX4_resize 9 = .ok (.if_icmp .le 13, 3) := by decide +kernel
theorem dX4_resize_12 : decode cX4_resize 12 = .ok (.new 48, 3) := by decide +kernel
theorem dX4_resize_15 : decode cX4_resize 15 = .ok (.dup, 1) := by decide +kernel
theorem dX4_resize_16 : decode cX4_resize 16 = .ok (.ldc 190, 2) := by decide +kernel
theorem dX4_resize_18 : decode cX4_resize 18 = .ok (.invokespecial 52, 3) := by decide +kernel
theorem dX4_resize_21 : decode cX4_resize 21 = .ok (.athrow, 1) := by decide +kernel
theorem dX4_resize_22 : decode cX4_resize 22 = .ok (.aload_n 0, 1) := by decide +kernel
theorem dX4_resize_23 : decode cX4_resize 23 = .ok (.getfield 36, 3) := by decide +kernel
theorem dX4_resize_26 : decode cX4_resize 26 = .ok (.aload_n 0, 1) := by decide +kernel
theorem dX4_resize_27 : decode cX4_resize 27 = .ok (.getfield 19, 3) := by decide +kernel
theorem dX4_resize_30 : decode cX4_resize 30 = .ok (.invokevirtual 163, 3) := by decide +kernel
theorem dX4_resize_33 : decode cX4_resize 33 = .ok (.aload_n 0, 1) := by decide +kernel
theorem dX4_resize_34 : decode cX4_resize 34 = .ok (.getfield 19, 3) := by decide +kernel
theorem dX4_resize_37 : decode cX4_resize 37 = .ok (.iload_n 1, 1) := by decide +kernel
theorem dX4_resize_38 : decode cX4_resize 38 = .ok (.invokevirtual 192, 3) := by decide +kernel
theorem dX4_resize_41 : decode cX4_resize 41 = .ok (.aload_n 0, 1) := by decide +kernel
theorem dX4_resize_42 : decode cX4_resize 42 = .ok (.getfield 19, 3) := by decide +kernel
theorem dX4_resize_45 : decode cX4_resize 45 = .ok (.invokevirtual 95, 3) := by decide +kernel
theorem dX4_resize_48 : decode cX4_resize 48 = .ok (.ireturn, 1) := by decide +kernel
set_option maxRecDepth 20000 in
theorem ggX4_costs_X4_checkRange : GoodIn wsX4_costs wsX4_checkRange := goodIn_ca (goodIn_ca (goodIn_r _ [6, 7, 8, 9, 10, 11, 5, 12, 13, 14, 1, 15, 16, 17, 18, 19, 20, 45, 46, 47, 48, 49, 50, 51, 52, 53, 54, 55, 56, 57, 58, 59, 60] (by decide +kernel) (by decide +kernel)) (goodIn_sub (fun _ h => List.mem_cons_of_mem _ (List.mem_append_left _ (List.mem_append_right _ h))) (by decide +kernel))) (goodIn_sub (fun _ h => List.mem_cons_of_mem _ (List.mem_append_right _ h)) (by decide +kernel))
set_option maxRecDepth 20000 in
theorem gX4_costs_X4_checkRange : GoodIn wsX4_costs (wsV RX4 144 RX4 yX4_checkRange wsX4_checkRange) := goodIn_app (goodIn_of _ (by decide +kernel)) ggX4_costs_X4_checkRange
set_option maxRecDepth 20000 in
theorem ggX4_costs_X0_isNarrow : GoodIn wsX4_costs wsX0_isNarrow := goodIn_r _ [24, 25, 51, 52, 53, 54, 55, 56, 57, 58, 59, 60] (by decide +kernel) (by decide +kernel)
set_option maxRecDepth 20000 in
theorem gX4_costs_X0_isNarrow : GoodIn wsX4_costs (wsV RX4 179 RX0 yX0_isNarrow wsX0_isNarrow) := goodIn_app (goodIn_of _ (by decide +kernel)) ggX4_costs_X0_isNarrow
set_option maxRecDepth 20000 in
theorem ggX4_costs_X0_price : GoodIn wsX4_costs wsX0_price := goodIn_r _ [29, 30, 31, 32, 18, 33, 34, 35, 36, 37, 38, 39, 40, 41, 42, 43, 44, 51, 52, 53, 54, 55, 56, 57, 58, 59, 60] (by decide +kernel) (by decide +kernel)
set_option maxRecDepth 20000 in
theorem gX4_costs_X0_price : GoodIn wsX4_costs (wsV RX4 204 RX0 yX0_price wsX0_price) := goodIn_app (goodIn_of _ (by decide +kernel)) ggX4_costs_X0_price
theorem dX4_costs_0 : decode cX4_costs 0 = .ok (.aload_n 0, 1) := by decide +kernel
theorem dX4_costs_1 : decode cX4_costs 1 = .ok (.iload_n 1, 1) := by decide +kernel
theorem dX4_costs_2 : decode cX4_costs 2 = .ok (.iload_n 2, 1) := by decide +kernel
theorem dX4_costs_3 : decode cX4_costs 3 = .ok (.invokevirtual 144, 3) := by decide +kernel
theorem dX4_costs_6 : decode cX4_costs 6 = .ok (.aload_n 0, 1) := by decide +kernel
theorem dX4_costs_7 : decode cX4_costs 7 = .ok (.getfield 19, 3) := by decide +kernel
theorem dX4_costs_10 : decode cX4_costs 10 = .ok (.iload_n 1, 1) := by decide +kernel
theorem dX4_costs_11 : decode cX4_costs 11 = .ok (.iload_n 2, 1) := by decide +kernel
theorem dX4_costs_12 : decode cX4_costs 12 = .ok (.invokevirtual 179, 3) := by decide +kernel
theorem dX4_costs_15 : decode cX4_costs 15 = .ok (.ifCond .eq 7, 3) := by decide +kernel
theorem dX4_costs_18 : decode cX4_costs 18 = .ok (.iconst (-1), 1) := by decide +kernel
theorem dX4_costs_19 : decode cX4_costs 19 = .ok (.goto 12, 3) := by decide +kernel
theorem dX4_costs_22 : decode cX4_costs 22 = .ok (.aload_n 0, 1) := by decide +kernel
theorem dX4_costs_23 : decode cX4_costs 23 = .ok (.getfield 19, 3) := by decide +kernel
theorem dX4_costs_26 : decode cX4_costs 26 = .ok (.iload_n 1, 1) := by decide +kernel
theorem dX4_costs_27 : decode cX4_costs 27 = .ok (.iload_n 2, 1) := by decide +kernel
theorem dX4_costs_28 : decode cX4_costs 28 = .ok (.invokevirtual 204, 3) := by decide +kernel
theorem dX4_costs_31 : decode cX4_costs 31 = .ok (.ireturn, 1) := by decide +kernel
set_option maxRecDepth 20000 in
theorem ggX4_bestQuestion_X1_learnFrom : GoodIn wsX4_bestQuestion wsX1_learnFrom := goodIn_r _ [9, 10, 11, 12, 13, 14, 15, 8, 16, 17, 18, 19, 20, 21, 22, 23, 24, 25, 26, 27, 28, 29, 30, 31, 32, 33, 34, 35, 36, 37, 38, 39, 40, 41, 42, 43, 44, 45, 46, 47, 48, 49, 50, 51, 52, 53, 82, 83, 84, 85, 86, 87, 88, 89, 90, 91, 92, 93] (by decide +kernel) (by decide +kernel)
set_option maxRecDepth 20000 in
theorem gX4_bestQuestion_X1_learnFrom : GoodIn wsX4_bestQuestion (wsV RX4 119 RX1 yX1_learnFrom wsX1_learnFrom) := goodIn_app (goodIn_of _ (by decide +kernel)) ggX4_bestQuestion_X1_learnFrom
set_option maxRecDepth 20000 in
theorem ggX4_bestQuestion_X1_greatestKeys : GoodIn wsX4_bestQuestion wsX1_greatestKeys := goodIn_r _ [57, 42, 43, 44, 8, 45, 25, 92, 93] (by decide +kernel) (by decide +kernel)
set_option maxRecDepth 20000 in
theorem gX4_bestQuestion_X1_greatestKeys : GoodIn wsX4_bestQuestion (wsV RX4 151 RX1 yX1_greatestKeys wsX1_greatestKeys) := goodIn_app (goodIn_of _ (by decide +kernel)) ggX4_bestQuestion_X1_greatestKeys
set_option maxRecDepth 20000 in
theorem ggX4_bestQuestion_X1_fewestKeys : GoodIn wsX4_bestQuestion wsX1_fewestKeys := goodIn_r _ [61, 42, 43, 44, 8, 45, 25, 92, 93] (by decide +kernel) (by decide +kernel)
set_option maxRecDepth 20000 in
theorem gX4_bestQuestion_X1_fewestKeys : GoodIn wsX4_bestQuestion (wsV RX4 148 RX1 yX1_fewestKeys wsX1_fewestKeys) := goodIn_app (goodIn_of _ (by decide +kernel)) ggX4_bestQuestion_X1_fewestKeys
set_option maxRecDepth 20000 in
theorem ggX4_bestQuestion_X0_price : GoodIn wsX4_bestQuestion wsX0_price := goodIn_r _ [65, 66, 67, 68, 29, 69, 70, 37, 27, 28, 30, 31, 71, 72, 73, 74, 75, 82, 83, 84, 85, 86, 87, 88, 89, 90, 91] (by decide +kernel) (by decide +kernel)
set_option maxRecDepth 20000 in
theorem gX4_bestQuestion_X0_price : GoodIn wsX4_bestQuestion (wsV RX4 204 RX0 yX0_price wsX0_price) := goodIn_app (goodIn_of _ (by decide +kernel)) ggX4_bestQuestion_X0_price
theorem dX4_bestQuestion_0 : decode cX4_bestQuestion 0 = .ok (.aload_n 0, 1) := by decide +kernel
theorem dX4_bestQuestion_1 : decode cX4_bestQuestion 1 = .ok (.getfield 29, 3) := by decide +kernel
theorem dX4_bestQuestion_4 : decode cX4_bestQuestion 4 = .ok (.aload_n 0, 1) := by decide +kernel
theorem dX4_bestQuestion_5 : decode cX4_bestQuestion 5 = .ok (.getfield 19, 3) := by decide +kernel
theorem dX4_bestQuestion_8 : decode cX4_bestQuestion 8 = .ok (.iconst (-1), 1) := by decide +kernel
theorem dX4_bestQuestion_9 : decode cX4_bestQuestion 9 = .ok (.invokevirtual 119, 3) := by decide +kernel
theorem dX4_bestQuestion_12 : decode cX4_bestQuestion 12 = .ok (.iconst (-1), 1) := by decide +kernel
theorem dX4_bestQuestion_13 : decode cX4_bestQuestion 13 = .ok (.istore_n 1, 1) := by decide +kernel
theorem dX4_bestQuestion_14 : decode cX4_bestQuestion 14 = .ok (.iconst 0, 1) := by decide +kernel
theorem dX4_bestQuestion_15 : decode cX4_bestQuestion 15 = .ok (.istore_n 2, 1) := by decide +kernel
theorem dX4_bestQuestion_16 : decode cX4_bestQuestion 16 = .ok (.iconst 0, 1) := by decide +kernel
theorem dX4_bestQuestion_17 : decode cX4_bestQuestion 17 = .ok (.istore_n 3, 1) := by decide +kernel
theorem dX4_bestQuestion_18 : decode cX4_bestQuestion 18 = .ok (.iconst 0, 1) := by decide +kernel
theorem dX4_bestQuestion_19 : decode cX4_bestQuestion 19 = .ok (.istore 4, 2) := by decide +kernel
theorem dX4_bestQuestion_21 : decode cX4_bestQuestion 21 = .ok (.iload 4, 2) := by decide +kernel
theorem dX4_bestQuestion_23 : decode cX4_bestQuestion 23 = .ok (.aload_n 0, 1) := by decide +kernel
theorem dX4_bestQuestion_24 : decode cX4_bestQuestion 24 = .ok (.getfield 19, 3) := by decide +kernel
theorem dX4_bestQuestion_27 : decode cX4_bestQuestion 27 = .ok (.getfield 91, 3) := by decide +kernel
theorem dX4_bestQuestion_30 : decode cX4_bestQuestion 30 = .ok (.if_icmp .ge 122, 3) := by decide +kernel
theorem dX4_bestQuestion_33 : decode cX4_bestQuestion 33 = .ok (.iload 4, 2) := by decide +kernel
theorem dX4_bestQuestion_35 : decode cX4_bestQuestion 35 = .ok (.aload_n 0, 1) := by decide +kernel
theorem dX4_bestQuestion_36 : decode cX4_bestQuestion 36 = .ok (.getfield 19, 3) := by decide +kernel
theorem dX4_bestQuestion_39 : decode cX4_bestQuestion 39 = .ok (.getfield 98, 3) := by decide +kernel
theorem dX4_bestQuestion_42 : decode cX4_bestQuestion 42 = .ok (.iadd, 1) := by decide +kernel
theorem dX4_bestQuestion_43 : decode cX4_bestQuestion 43 = .ok (.iconst 1, 1) := by decide +kernel
theorem dX4_bestQuestion_44 : decode cX4_bestQuestion 44 = .ok (.isub, 1) := by decide +kernel
theorem dX4_bestQuestion_45 : decode cX4_bestQuestion 45 = .ok (.istore 5, 2) := by decide +kernel
theorem dX4_bestQuestion_47 : decode cX4_bestQuestion 47 = .ok (.iload 5, 2) := by decide +kernel
theorem dX4_bestQuestion_49 : decode cX4_bestQuestion 49 = .ok (.aload_n 0, 1) := by decide +kernel
theorem dX4_bestQuestion_50 : decode cX4_bestQuestion 50 = .ok (.getfield 19, 3) := by decide +kernel
theorem dX4_bestQuestion_53 : decode cX4_bestQuestion 53 = .ok (.getfield 91, 3) := by decide +kernel
theorem dX4_bestQuestion_56 : decode cX4_bestQuestion 56 = .ok (.if_icmp .ge 90, 3) := by decide +kernel
theorem dX4_bestQuestion_59 : decode cX4_bestQuestion 59 = .ok (.aload_n 0, 1) := by decide +kernel
theorem dX4_bestQuestion_60 : decode cX4_bestQuestion 60 = .ok (.getfield 29, 3) := by decide +kernel
theorem dX4_bestQuestion_63 : decode cX4_bestQuestion 63 = .ok (.iload 4, 2) := by decide +kernel
theorem dX4_bestQuestion_65 : decode cX4_bestQuestion 65 = .ok (.iload 5, 2) := by decide +kernel
theorem dX4_bestQuestion_67 : decode cX4_bestQuestion 67 = .ok (.invokevirtual 151, 3) := by decide +kernel
theorem dX4_bestQuestion_70 : decode cX4_bestQuestion 70 = .ok (.aload_n 0, 1) := by decide +kernel
theorem dX4_bestQuestion_71 : decode cX4_bestQuestion 71 = .ok (.getfield 29, 3) := by decide +kernel
theorem dX4_bestQuestion_74 : decode cX4_bestQuestion 74 = .ok (.iload 4, 2) := by decide +kernel
theorem dX4_bestQuestion_76 : decode cX4_bestQuestion 76 = .ok (.iload 5, 2) := by decide +kernel
theorem dX4_bestQuestion_78 : decode cX4_bestQuestion 78 = .ok (.invokevirtual 148, 3) := by decide +kernel
theorem dX4_bestQuestion_81 : decode cX4_bestQuestion 81 = .ok (.isub, 1) := by decide +kernel
theorem dX4_bestQuestion_82 : decode cX4_bestQuestion 82 = .ok (.istore 6, 2) := by decide +kernel
theorem dX4_bestQuestion_84 : decode cX4_bestQuestion 84 = .ok (.iload 6, 2) := by decide +kernel
theorem dX4_bestQuestion_86 : decode cX4_bestQuestion 86 = .ok (.iload_n 2, 1) := by decide +kernel
theorem dX4_bestQuestion_87 : decode cX4_bestQuestion 87 = .ok (.if_icmp .gt 29, 3) := by decide +kernel
theorem dX4_bestQuestion_90 : decode cX4_bestQuestion 90 = .ok (.iload 6, 2) := by decide +kernel
theorem dX4_bestQuestion_92 : decode cX4_bestQuestion 92 = .ok (.iload_n 2, 1) := by decide +kernel
theorem dX4_bestQuestion_93 : decode cX4_bestQuestion 93 = .ok (.if_icmp .ne 47, 3) := by decide +kernel
theorem dX4_bestQuestion_96 : decode cX4_bestQuestion 96 = .ok (.iload 6, 2) := by decide +kernel
theorem dX4_bestQuestion_98 : decode cX4_bestQuestion 98 = .ok (.ifCond .le 42, 3) := by decide +kernel
theorem dX4_bestQuestion_101 : decode cX4_bestQuestion 101 = .ok (.aload_n 0, 1) := by decide +kernel
theorem dX4_bestQuestion_102 : decode cX4_bestQuestion 102 = .ok (.getfield 19, 3) := by decide +kernel
theorem dX4_bestQuestion_105 : decode cX4_bestQuestion 105 = .ok (.iload 4, 2) := by decide +kernel
theorem dX4_bestQuestion_107 : decode cX4_bestQuestion 107 = .ok (.iload 5, 2) := by decide +kernel
theorem dX4_bestQuestion_109 : decode cX4_bestQuestion 109 = .ok (.invokevirtual 204, 3) := by decide +kernel
theorem dX4_bestQuestion_112 : decode cX4_bestQuestion 112 = .ok (.iload_n 3, 1) := by decide +kernel
theorem dX4_bestQuestion_113 : decode cX4_bestQuestion 113 = .ok (.if_icmp .ge 27, 3) := by decide +kernel
theorem dX4_bestQuestion_116 : decode cX4_bestQuestion 116 = .ok (.bipush 100, 2) := by decide +kernel
theorem dX4_bestQuestion_118 : decode cX4_bestQuestion 118 = .ok (.iload 4, 2) := by decide +kernel
theorem dX4_bestQuestion_120 : decode cX4_bestQuestion 120 = .ok (.imul, 1) := by decide +kernel
theorem dX4_bestQuestion_121 : decode cX4_bestQuestion 121 = .ok (.iload 5, 2) := by decide +kernel
theorem dX4_bestQuestion_123 : decode cX4_bestQuestion 123 = .ok (.iadd, 1) := by decide +kernel
theorem dX4_bestQuestion_124 : decode cX4_bestQuestion 124 = .ok (.istore_n 1, 1) := by decide +kernel
theorem dX4_bestQuestion_125 : decode cX4_bestQuestion 125 = .ok (.iload 6, 2) := by decide +kernel
theorem dX4_bestQuestion_127 : decode cX4_bestQuestion 127 = .ok (.istore_n 2, 1) := by decide +kernel
theorem dX4_bestQuestion_128 : decode cX4_bestQuestion 128 = .ok (.aload_n 0, 1) := by decide +kernel
theorem dX4_bestQuestion_129 : decode cX4_bestQuestion 129 = .ok (.getfield 19, 3) := by decide +kernel
theorem dX4_bestQuestion_132 : decode cX4_bestQuestion 132 = .ok (.iload 4, 2) := by decide +kernel
theorem dX4_bestQuestion_134 : decode cX4_bestQuestion 134 = .ok (.iload 5, 2) := by decide +kernel
theorem dX4_bestQuestion_136 : decode cX4_bestQuestion 136 = .ok (.invokevirtual 204, 3) := by decide +kernel
theorem dX4_bestQuestion_139 : decode cX4_bestQuestion 139 = .ok (.istore_n 3, 1) := by decide +kernel
theorem dX4_bestQuestion_140 : decode cX4_bestQuestion 140 = .ok (.iinc 5 1, 3) := by decide +kernel
theorem dX4_bestQuestion_143 : decode cX4_bestQuestion 143 = .ok (.goto (-96), 3) := by decide +kernel
theorem dX4_bestQuestion_146 : decode cX4_bestQuestion 146 = .ok (.iinc 4 1, 3) := by decide +kernel
theorem dX4_bestQuestion_149 : decode cX4_bestQuestion 149 = .ok (.goto (-128), 3) := by decide +kernel
theorem dX4_bestQuestion_152 : decode cX4_bestQuestion 152 = .ok (.iload_n 1, 1) := by decide +kernel
theorem dX4_bestQuestion_153 : decode cX4_bestQuestion 153 = .ok (.ireturn, 1) := by decide +kernel
set_option maxRecDepth 20000 in
theorem ggX4_worst_X4_checkRange : GoodIn wsX4_worst wsX4_checkRange := goodIn_ca (goodIn_ca (goodIn_r _ [16, 17, 18, 19, 20, 21, 15, 22, 23, 24, 1, 25, 26, 27, 28, 29, 30, 98, 99, 100, 101, 102, 103, 104, 105, 106, 107, 108, 109, 110, 111, 112, 113] (by decide +kernel) (by decide +kernel)) (goodIn_sub (fun _ h => List.mem_cons_of_mem _ (List.mem_append_left _ (List.mem_append_right _ h))) (by decide +kernel))) (goodIn_sub (fun _ h => List.mem_cons_of_mem _ (List.mem_append_right _ h)) (by decide +kernel))
set_option maxRecDepth 20000 in
theorem gX4_worst_X4_checkRange : GoodIn wsX4_worst (wsV RX4 144 RX4 yX4_checkRange wsX4_checkRange) := goodIn_app (goodIn_of _ (by decide +kernel)) ggX4_worst_X4_checkRange
set_option maxRecDepth 20000 in
theorem ggX4_worst_X0_isNarrow : GoodIn wsX4_worst wsX0_isNarrow := goodIn_r _ [34, 35, 104, 105, 106, 107, 108, 109, 110, 111, 112, 113] (by decide +kernel) (by decide +kernel)
set_option maxRecDepth 20000 in
theorem gX4_worst_X0_isNarrow : GoodIn wsX4_worst (wsV RX4 179 RX0 yX0_isNarrow wsX0_isNarrow) := goodIn_app (goodIn_of _ (by decide +kernel)) ggX4_worst_X0_isNarrow
set_option maxRecDepth 20000 in
theorem ggX4_worst_X1_learnFrom : GoodIn wsX4_worst wsX1_learnFrom := goodIn_r _ [40, 41, 42, 43, 44, 45, 46, 39, 47, 48, 6, 7, 8, 49, 50, 51, 52, 53, 54, 55, 56, 28, 57, 58, 59, 60, 61, 62, 63, 64, 65, 66, 67, 68, 69, 70, 71, 72, 73, 74, 75, 76, 77, 78, 79, 80, 104, 105, 106, 107, 108, 109, 110, 111, 112, 113, 114, 115] (by decide +kernel) (by decide +kernel)
set_option maxRecDepth 20000 in
theorem gX4_worst_X1_learnFrom : GoodIn wsX4_worst (wsV RX4 119 RX1 yX1_learnFrom wsX1_learnFrom) := goodIn_app (goodIn_of _ (by decide +kernel)) ggX4_worst_X1_learnFrom
set_option maxRecDepth 20000 in
theorem ggX4_worst_X1_fewestKeys : GoodIn wsX4_worst wsX1_fewestKeys := goodIn_r _ [84, 69, 70, 71, 39, 72, 53, 114, 115] (by decide +kernel) (by decide +kernel)
set_option maxRecDepth 20000 in
theorem gX4_worst_X1_fewestKeys : GoodIn wsX4_worst (wsV RX4 148 RX1 yX1_fewestKeys wsX1_fewestKeys) := goodIn_app (goodIn_of _ (by decide +kernel)) ggX4_worst_X1_fewestKeys
set_option maxRecDepth 20000 in
theorem ggX4_worst_X1_greatestKeys : GoodIn wsX4_worst wsX1_greatestKeys := goodIn_r _ [88, 69, 70, 71, 39, 72, 53, 114, 115] (by decide +kernel) (by decide +kernel)
set_option maxRecDepth 20000 in
theorem gX4_worst_X1_greatestKeys : GoodIn wsX4_worst (wsV RX4 151 RX1 yX1_greatestKeys wsX1_greatestKeys) := goodIn_app (goodIn_of _ (by decide +kernel)) ggX4_worst_X1_greatestKeys
set_option maxRecDepth 20000 in
theorem ggX4_worst_X1_countSureBehind : GoodIn wsX4_worst wsX1_countSureBehind := goodIn_r _ [92, 42, 93, 94, 95, 39, 96, 97, 10, 7, 11, 69, 70, 71, 72, 53, 114, 115] (by decide +kernel) (by decide +kernel)
set_option maxRecDepth 20000 in
theorem gX4_worst_X1_countSureBehind : GoodIn wsX4_worst (wsV RX4 207 RX1 yX1_countSureBehind wsX1_countSureBehind) := goodIn_app (goodIn_of _ (by decide +kernel)) ggX4_worst_X1_countSureBehind
theorem dX4_worst_0 : decode cX4_worst 0 = .ok (.aload_n 0, 1) := by decide +kernel
theorem dX4_worst_1 : decode cX4_worst 1 = .ok (.iload_n 1, 1) := by decide +kernel
theorem dX4_worst_2 : decode cX4_worst 2 = .ok (.iload_n 2, 1) := by decide +kernel
theorem dX4_worst_3 : decode cX4_worst 3 = .ok (.invokevirtual 144, 3) := by decide +kernel
theorem dX4_worst_6 : decode cX4_worst 6 = .ok (.aload_n 0, 1) := by decide +kernel
theorem dX4_worst_7 : decode cX4_worst 7 = .ok (.getfield 19, 3) := by decide +kernel
theorem dX4_worst_10 : decode cX4_worst 10 = .ok (.iload_n 1, 1) := by decide +kernel
theorem dX4_worst_11 : decode cX4_worst 11 = .ok (.iload_n 2, 1) := by decide +kernel
theorem dX4_worst_12 : decode cX4_worst 12 = .ok (.invokevirtual 179, 3) := by decide +kernel
theorem dX4_worst_15 : decode cX4_worst 15 = .ok (.ifCond .eq 5, 3) := by decide +kernel
theorem dX4_worst_18 : decode cX4_worst 18 = .ok (.iconst (-1), 1) := by decide +kernel
theorem dX4_worst_19 : decode cX4_worst 19 = .ok (.ireturn, 1) := by decide +kernel
theorem dX4_worst_20 : decode cX4_worst 20 = .ok (.aload_n 0, 1) := by decide +kernel
theorem dX4_worst_21 : decode cX4_worst 21 = .ok (.getfield 29, 3) := by decide +kernel
theorem dX4_worst_24 : decode cX4_worst 24 = .ok (.aload_n 0, 1) := by decide +kernel
theorem dX4_worst_25 : decode cX4_worst 25 = .ok (.getfield 19, 3) := by decide +kernel
theorem dX4_worst_28 : decode cX4_worst 28 = .ok (.iconst (-1), 1) := by decide +kernel
theorem dX4_worst_29 : decode cX4_worst 29 = .ok (.invokevirtual 119, 3) := by decide +kernel
theorem dX4_worst_32 : decode cX4_worst 32 = .ok (.aload_n 0, 1) := by decide +kernel
theorem dX4_worst_33 : decode cX4_worst 33 = .ok (.getfield 29, 3) := by decide +kernel
theorem dX4_worst_36 : decode cX4_worst 36 = .ok (.iload_n 1, 1) := by decide +kernel
theorem dX4_worst_37 : decode cX4_worst 37 = .ok (.iload_n 2, 1) := by decide +kernel
theorem dX4_worst_38 : decode cX4_worst 38 = .ok (.invokevirtual 148, 3) := by decide +kernel
theorem dX4_worst_41 : decode cX4_worst 41 = .ok (.istore_n 3, 1) := by decide +kernel
theorem dX4_worst_42 : decode cX4_worst 42 = .ok (.aload_n 0, 1) := by decide +kernel
theorem dX4_worst_43 : decode cX4_worst 43 = .ok (.getfield 29, 3) := by decide +kernel
theorem dX4_worst_46 : decode cX4_worst 46 = .ok (.iload_n 1, 1) := by decide +kernel
theorem dX4_worst_47 : decode cX4_worst 47 = .ok (.iload_n 2, 1) := by decide +kernel
theorem dX4_worst_48 : decode cX4_worst 48 = .ok (.invokevirtual 151, 3) := by decide +kernel
theorem dX4_worst_51 : decode cX4_worst 51 = .ok (.istore 4, 2) := by decide +kernel
theorem dX4_worst_53 : decode cX4_worst 53 = .ok (.aload_n 0, 1) := by decide +kernel
theorem dX4_worst_54 : decode cX4_worst 54 = .ok (.getfield 19, 3) := by decide +kernel
theorem dX4_worst_57 : decode cX4_worst 57 = .ok (.getfield 91, 3) := by decide +kernel
theorem dX4_worst_60 : decode cX4_worst 60 = .ok (.istore 5, 2) := by decide +kernel
theorem dX4_worst_62 : decode cX4_worst 62 = .ok (.iload_n 3, 1) := by decide +kernel
theorem dX4_worst_63 : decode cX4_worst 63 = .ok (.aload_n 0, 1) := by decide +kernel
theorem dX4_worst_64 : decode cX4_worst 64 = .ok (.getfield 19, 3) := by decide +kernel
theorem dX4_worst_67 : decode cX4_worst 67 = .ok (.getfield 101, 3) := by decide +kernel
theorem dX4_worst_70 : decode cX4_worst 70 = .ok (.if_icmp .ge 24, 3) := by decide +kernel
theorem dX4_worst_73 : decode cX4_worst 73 = .ok (.aload_n 0, 1) := by decide +kernel
theorem dX4_worst_74 : decode cX4_worst 74 = .ok (.getfield 29, 3) := by decide +kernel
theorem dX4_worst_77 : decode cX4_worst 77 = .ok (.iload_n 1, 1) := by decide +kernel
theorem dX4_worst_78 : decode cX4_worst 78 = .ok (.iload_n 2, 1) := by decide +kernel
theorem dX4_worst_79 : decode cX4_worst 79 = .ok (.iconst 0, 1) := by decide +kernel
theorem dX4_worst_80 : decode cX4_worst 80 = .ok (.aload_n 0, 1) := by decide +kernel
theorem dX4_worst_81 : decode cX4_worst 81 = .ok (.getfield 19, 3) := by decide +kernel
theorem dX4_worst_84 : decode cX4_worst 84 = .ok (.getfield 101, 3) := by decide +kernel
theorem dX4_worst_87 : decode cX4_worst 87 = .ok (.iconst 1, 1) := by decide +kernel
theorem dX4_worst_88 : decode cX4_worst 88 = .ok (.isub, 1) := by decide +kernel
theorem dX4_worst_89 : decode cX4_worst 89 = .ok (.invokevirtual 207, 3) := by decide +kernel
theorem dX4_worst_92 : decode cX4_worst 92 = .ok (.istore 5, 2) := by decide +kernel
theorem dX4_worst_94 : decode cX4_worst 94 = .ok (.iload_n 3, 1) := by decide +kernel
theorem dX4_worst_95 : decode cX4_worst 95 = .ok (.aload_n 0, 1) := by decide +kernel
theorem dX4_worst_96 : decode cX4_worst 96 = .ok (.getfield 19, 3) := by decide +kernel
theorem dX4_worst_99 : decode cX4_worst 99 = .ok (.getfield 101, 3) := by decide +kernel
theorem dX4_worst_102 : decode cX4_worst 102 = .ok (.invokestatic 211, 3) := by decide +kernel
theorem dX4_worst_105 : decode cX4_worst 105 = .ok (.istore 6, 2) := by decide +kernel
theorem dX4_worst_107 : decode cX4_worst 107 = .ok (.iload 6, 2) := by decide +kernel
theorem dX4_worst_109 : decode cX4_worst 109 = .ok (.iload 4, 2) := by decide +kernel
theorem dX4_worst_111 : decode cX4_worst 111 = .ok (.if_icmp .gt 29, 3) := by decide +kernel
theorem dX4_worst_114 : decode cX4_worst 114 = .ok (.iload 5, 2) := by decide +kernel
theorem dX4_worst_116 : decode cX4_worst 116 = .ok (.aload_n 0, 1) := by decide +kernel
theorem dX4_worst_117 : decode cX4_worst 117 = .ok (.getfield 29, 3) := by decide +kernel
theorem dX4_worst_120 : decode cX4_worst 120 = .ok (.iload_n 1, 1) := by decide +kernel
theorem dX4_worst_121 : decode cX4_worst 121 = .ok (.iload_n 2, 1) := by decide +kernel
theorem dX4_worst_122 : decode cX4_worst 122 = .ok (.iload 6, 2) := by decide +kernel
theorem dX4_worst_124 : decode cX4_worst 124 = .ok (.iload 6, 2) := by decide +kernel
theorem dX4_worst_126 : decode cX4_worst 126 = .ok (.invokevirtual 207, 3) := by decide +kernel
theorem dX4_worst_129 : decode cX4_worst 129 = .ok (.invokestatic 216, 3) := by decide +kernel
theorem dX4_worst_132 : decode cX4_worst 132 = .ok (.istore 5, 2) := by decide +kernel
theorem dX4_worst_134 : decode cX4_worst 134 = .ok (.iinc 6 1, 3) := by decide +kernel
theorem dX4_worst_137 : decode cX4_worst 137 = .ok (.goto (-30), 3) := by decide +kernel
theorem dX4_worst_140 : decode cX4_worst 140 = .ok (.iload 5, 2) := by decide +kernel
theorem dX4_worst_142 : decode cX4_worst 142 = .ok (.ireturn, 1) := by decide +kernel
set_option maxRecDepth 20000 in
theorem ggX4_leastWorth_X1_learnFrom : GoodIn wsX4_leastWorth wsX1_learnFrom := goodIn_r _ [8, 9, 10, 11, 12, 13, 14, 7, 15, 16, 17, 18, 19, 20, 21, 22, 23, 24, 25, 26, 27, 28, 29, 30, 31, 32, 33, 34, 35, 36, 37, 38, 39, 40, 41, 42, 43, 44, 45, 46, 47, 48, 49, 50, 51, 52, 75, 76, 77, 78, 79, 80, 81, 82, 83, 84, 85, 86] (by decide +kernel) (by decide +kernel)
set_option maxRecDepth 20000 in
theorem gX4_leastWorth_X1_learnFrom : GoodIn wsX4_leastWorth (wsV RX4 119 RX1 yX1_learnFrom wsX1_learnFrom) := goodIn_app (goodIn_of _ (by decide +kernel)) ggX4_leastWorth_X1_learnFrom
set_option maxRecDepth 20000 in
theorem ggX4_leastWorth_X1_countSure : GoodIn wsX4_leastWorth wsX1_countSure := goodIn_r _ [56, 10, 57, 58, 59, 7, 60, 61, 62, 63, 64, 41, 42, 43, 44, 24, 65, 66, 67, 68, 85, 86] (by decide +kernel) (by decide +kernel)
set_option maxRecDepth 20000 in
theorem gX4_leastWorth_X1_countSure : GoodIn wsX4_leastWorth (wsV RX4 123 RX1 yX1_countSure wsX1_countSure) := goodIn_app (goodIn_of _ (by decide +kernel)) ggX4_leastWorth_X1_countSure
theorem dX4_leastWorth_0 : decode cX4_leastWorth 0 = .ok (.iconst (-1), 1) := by decide +kernel
theorem dX4_leastWorth_1 : decode cX4_leastWorth 1 = .ok (.istore_n 1, 1) := by decide +kernel
theorem dX4_leastWorth_2 : decode cX4_leastWorth 2 = .ok (.iconst (-1), 1) := by decide +kernel
theorem dX4_leastWorth_3 : decode cX4_leastWorth 3 = .ok (.istore_n 2, 1) := by decide +kernel
theorem dX4_leastWorth_4 : decode cX4_leastWorth 4 = .ok (.iconst 0, 1) := by decide +kernel
theorem dX4_leastWorth_5 : decode cX4_leastWorth 5 = .ok (.istore_n 3, 1) := by decide +kernel
theorem dX4_leastWorth_6 : decode cX4_leastWorth 6 = .ok (.iload_n 3, 1) := by decide +kernel
theorem dX4_leastWorth_7 : decode cX4_leastWorth 7 = .ok (.aload_n 0, 1) := by decide +kernel
theorem dX4_leastWorth_8 : decode cX4_leastWorth 8 = .ok (.getfield 19, 3) := by decide +kernel
theorem dX4_leastWorth_11 : decode cX4_leastWorth 11 = .ok (.getfield 107, 3) := by decide +kernel
theorem dX4_leastWorth_14 : decode cX4_leastWorth 14 = .ok (.if_icmp .ge 41, 3) := by decide +kernel
theorem dX4_leastWorth_17 : decode cX4_leastWorth 17 = .ok (.aload_n 0, 1) := by decide +kernel
theorem dX4_leastWorth_18 : decode cX4_leastWorth 18 = .ok (.getfield 29, 3) := by decide +kernel
theorem dX4_leastWorth_21 : decode cX4_leastWorth 21 = .ok (.aload_n 0, 1) := by decide +kernel
theorem dX4_leastWorth_22 : decode cX4_leastWorth 22 = .ok (.getfield 19, 3) := by decide +kernel
theorem dX4_leastWorth_25 : decode cX4_leastWorth 25 = .ok (.iload_n 3, 1) := by decide +kernel
theorem dX4_leastWorth_26 : decode cX4_leastWorth 26 = .ok (.invokevirtual 119, 3) := by decide +kernel
theorem dX4_leastWorth_29 : decode cX4_leastWorth 29 = .ok (.aload_n 0, 1) := by decide +kernel
theorem dX4_leastWorth_30 : decode cX4_leastWorth 30 = .ok (.getfield 29, 3) := by decide +kernel
theorem dX4_leastWorth_33 : decode cX4_leastWorth 33 = .ok (.invokevirtual 123, 3) := by decide +kernel
theorem dX4_leastWorth_36 : decode cX4_leastWorth 36 = .ok (.istore 4, 2) := by decide +kernel
theorem dX4_leastWorth_38 : decode cX4_leastWorth 38 = .ok (.iload 4, 2) := by decide +kernel
theorem dX4_leastWorth_40 : decode cX4_leastWorth 40 = .ok (.iload_n 2, 1) := by decide +kernel
theorem dX4_leastWorth_41 : decode cX4_leastWorth 41 = .ok (.if_icmp .le 8, 3) := by decide +kernel
theorem dX4_leastWorth_44 : decode cX4_leastWorth 44 = .ok (.iload 4, 2) := by decide +kernel
theorem dX4_leastWorth_46 : decode cX4_leastWorth 46 = .ok (.istore_n 2, 1) := by decide +kernel
theorem dX4_leastWorth_47 : decode cX4_leastWorth 47 = .ok (.iload_n 3, 1) := by decide +kernel
theorem dX4_leastWorth_48 : decode cX4_leastWorth 48 = .ok (.istore_n 1, 1) := by decide +kernel
theorem dX4_leastWorth_49 : decode cX4_leastWorth 49 = .ok (.iinc 3 1, 3) := by decide +kernel
theorem dX4_leastWorth_52 : decode cX4_leastWorth 52 = .ok (.goto (-46), 3) := by decide +kernel
theorem dX4_leastWorth_55 : decode cX4_leastWorth 55 = .ok (.iload_n 1, 1) := by decide +kernel
theorem dX4_leastWorth_56 : decode cX4_leastWorth 56 = .ok (.ireturn, 1) := by decide +kernel
set_option maxRecDepth 20000 in
theorem ggX4_checkPlace_X0_isPlace : GoodIn wsX4_checkPlace wsX0_isPlace := goodIn_r _ [8, 9, 16, 17, 18, 19, 20, 21, 22, 23, 24, 25] (by decide +kernel) (by decide +kernel)
set_option maxRecDepth 20000 in
theorem gX4_checkPlace_X0_isPlace : GoodIn wsX4_checkPlace (wsV RX4 246 RX0 yX0_isPlace wsX0_isPlace) := goodIn_app (goodIn_of _ (by decide +kernel)) ggX4_checkPlace_X0_isPlace
theorem dX4_checkPlace_0 : decode cX4_checkPlace 0 = .ok (.aload_n 0, 1) := by decide +kernel
theorem dX4_checkPlace_1 : decode cX4_checkPlace 1 = .ok (.getfield 19, 3) := by decide +kernel
theorem dX4_checkPlace_4 : decode cX4_checkPlace 4 = .ok (.iload_n 1, 1) := by decide +kernel
theorem dX4_checkPlace_5 : decode cX4_checkPlace 5 = .ok (.invokevirtual 246, 3) := by decide +kernel
theorem dX4_checkPlace_8 : decode cX4_checkPlace 8 = .ok (.ifCond .ne 13, 3) := by decide +kernel
theorem dX4_checkPlace_11 : decode cX4_checkPlace 11 = .ok (.new 249, 3) := by decide +kernel
theorem dX4_checkPlace_14 : decode cX4_checkPlace 14 = .ok (.dup, 1) := by decide +kernel
theorem dX4_checkPlace_15 : decode cX4_checkPlace 15 = .ok (.ldc 251, 2) := by decide +kernel
theorem dX4_checkPlace_17 : decode cX4_checkPlace 17 = .ok (.invokespecial 253, 3) := by decide +kernel
theorem dX4_checkPlace_20 : decode cX4_checkPlace 20 = .ok (.athrow, 1) := by decide +kernel
theorem dX4_checkPlace_21 : decode cX4_checkPlace 21 = .ok (.return_, 1) := by decide +kernel
set_option maxRecDepth 20000 in
theorem ggX4_checkRange_X4_checkPlace : GoodIn wsX4_checkRange wsX4_checkPlace := goodIn_ca (goodIn_r _ [7, 8, 9, 10, 11, 12, 13, 14, 15, 16, 17, 18, 19, 20, 21, 22, 23, 24, 25, 26, 27, 28, 29, 30, 31, 32] (by decide +kernel) (by decide +kernel)) (goodIn_sub (fun _ h => List.mem_cons_of_mem _ (List.mem_append_right _ h)) (by decide +kernel))
set_option maxRecDepth 20000 in
theorem gX4_checkRange_X4_checkPlace : GoodIn wsX4_checkRange (wsV RX4 128 RX4 yX4_checkPlace wsX4_checkPlace) := goodIn_app (goodIn_of _ (by decide +kernel)) ggX4_checkRange_X4_checkPlace
theorem dX4_checkRange_0 : decode cX4_checkRange 0 = .ok (.aload_n 0, 1) := by decide +kernel
theorem dX4_checkRange_1 : decode cX4_checkRange 1 = .ok (.iload_n 1, 1) := by decide +kernel
theorem dX4_checkRange_2 : decode cX4_checkRange 2 = .ok (.invokevirtual 128, 3) := by decide +kernel
theorem dX4_checkRange_5 : decode cX4_checkRange 5 = .ok (.aload_n 0, 1) := by decide +kernel
theorem dX4_checkRange_6 : decode cX4_checkRange 6 = .ok (.iload_n 2, 1) := by decide +kernel
theorem dX4_checkRange_7 : decode cX4_checkRange 7 = .ok (.invokevirtual 128, 3) := by decide +kernel
theorem dX4_checkRange_10 : decode cX4_checkRange 10 = .ok (.iload_n 2, 1) := by decide +kernel
theorem dX4_checkRange_11 : decode cX4_checkRange 11 = .ok (.iload_n 1, 1) := by decide +kernel
theorem dX4_checkRange_12 : decode cX4_checkRange 12 = .ok (.if_icmp .ge 13, 3) := by decide +kernel
theorem dX4_checkRange_15 : decode cX4_checkRange 15 = .ok (.new 48, 3) := by decide +kernel
theorem dX4_checkRange_18 : decode cX4_checkRange 18 = .ok (.dup, 1) := by decide +kernel
theorem dX4_checkRange_19 : decode cX4_checkRange 19 = .ok (.ldc 254, 2) := by decide +kernel
theorem dX4_checkRange_21 : decode cX4_checkRange 21 = .ok (.invokespecial 52, 3) := by decide +kernel
theorem dX4_checkRange_24 : decode cX4_checkRange 24 = .ok (.athrow, 1) := by decide +kernel
theorem dX4_checkRange_25 : decode cX4_checkRange 25 = .ok (.return_, 1) := by decide +kernel
set_option maxRecDepth 20000 in
theorem ggX4_checkAnswer_X0_isAnswer : GoodIn wsX4_checkAnswer wsX0_isAnswer := goodIn_r _ [8, 9, 16, 17, 18, 19, 20, 21, 22, 23, 24, 25] (by decide +kernel) (by decide +kernel)
set_option maxRecDepth 20000 in
theorem gX4_checkAnswer_X0_isAnswer : GoodIn wsX4_checkAnswer (wsV RX4 256 RX0 yX0_isAnswer wsX0_isAnswer) := goodIn_app (goodIn_of _ (by decide +kernel)) ggX4_checkAnswer_X0_isAnswer
theorem dX4_checkAnswer_0 : decode cX4_checkAnswer 0 = .ok (.aload_n 0, 1) := by decide +kernel
theorem dX4_checkAnswer_1 : decode cX4_checkAnswer 1 = .ok (.getfield 19, 3) := by decide +kernel
theorem dX4_checkAnswer_4 : decode cX4_checkAnswer 4 = .ok (.iload_n 1, 1) := by decide +kernel
theorem dX4_checkAnswer_5 : decode cX4_checkAnswer 5 = .ok (.invokevirtual 256, 3) := by decide +kernel
theorem dX4_checkAnswer_8 : decode cX4_checkAnswer 8 = .ok (.ifCond .ne 14, 3) := by decide +kernel
theorem dX4_checkAnswer_11 : decode cX4_checkAnswer 11 = .ok (.new 249, 3) := by decide +kernel
theorem dX4_checkAnswer_14 : decode cX4_checkAnswer 14 = .ok (.dup, 1) := by decide +kernel
theorem dX4_checkAnswer_15 : decode cX4_checkAnswer 15 = .ok (.ldc_w 259, 3) := by decide +kernel
theorem dX4_checkAnswer_18 : decode cX4_checkAnswer 18 = .ok (.invokespecial 253, 3) := by decide +kernel
theorem dX4_checkAnswer_21 : decode cX4_checkAnswer 21 = .ok (.athrow, 1) := by decide +kernel
theorem dX4_checkAnswer_22 : decode cX4_checkAnswer 22 = .ok (.return_, 1) := by decide +kernel
theorem dX4_isSetting_0 : decode cX4_isSetting 0 = .ok (.iload_n 0, 1) := by decide +kernel
theorem dX4_isSetting_1 : decode cX4_isSetting 1 = .ok (.tableswitch 75 0 2 #[27, 44, 59], 27) := by decide +kernel
theorem dX4_isSetting_28 : decode cX4_isSetting 28 = .ok (.iload_n 1, 1) := by decide +kernel
theorem dX4_isSetting_29 : decode cX4_isSetting 29 = .ok (.iconst 1, 1) := by decide +kernel
theorem dX4_isSetting_30 : decode cX4_isSetting 30 = .ok (.if_icmp .lt 13, 3) := by decide +kernel
theorem dX4_isSetting_33 : decode cX4_isSetting 33 = .ok (.iload_n 1, 1) := by decide +kernel
theorem dX4_isSetting_34 : decode cX4_isSetting 34 = .ok (.bipush 8, 2) := by decide +kernel
theorem dX4_isSetting_36 : decode cX4_isSetting 36 = .ok (.if_icmp .gt 7, 3) := by decide +kernel
theorem dX4_isSetting_39 : decode cX4_isSetting 39 = .ok (.iconst 1, 1) := by decide +kernel
theorem dX4_isSetting_40 : decode cX4_isSetting 40 = .ok (.goto 4, 3) := by decide +kernel
theorem dX4_isSetting_43 : decode cX4_isSetting 43 = .ok (.iconst 0, 1) := by decide +kernel
theorem dX4_isSetting_44 : decode cX4_isSetting 44 = .ok (.ireturn, 1) := by decide +kernel
theorem dX4_isSetting_45 : decode cX4_isSetting 45 = .ok (.iload_n 1, 1) := by decide +kernel
theorem dX4_isSetting_46 : decode cX4_isSetting 46 = .ok (.ifCond .lt 12, 3) := by decide +kernel
theorem dX4_isSetting_49 : decode cX4_isSetting 49 = .ok (.iload_n 1, 1) := by decide +kernel
theorem dX4_isSetting_50 : decode cX4_isSetting 50 = .ok (.iconst 4, 1) := by decide +kernel
theorem dX4_isSetting_51 : decode cX4_isSetting 51 = .ok (.if_icmp .gt 7, 3) := by decide +kernel
theorem dX4_isSetting_54 : decode cX4_isSetting 54 = .ok (.iconst 1, 1) := by decide +kernel
theorem dX4_isSetting_55 : decode cX4_isSetting 55 = .ok (.goto 4, 3) := by decide +kernel
theorem dX4_isSetting_58 : decode cX4_isSetting 58 = .ok (.iconst 0, 1) := by decide +kernel
theorem dX4_isSetting_59 : decode cX4_isSetting 59 = .ok (.ireturn, 1) := by decide +kernel
theorem dX4_isSetting_60 : decode cX4_isSetting 60 = .ok (.iload_n 1, 1) := by decide +kernel
theorem dX4_isSetting_61 : decode cX4_isSetting 61 = .ok (.ifCond .lt 13, 3) := by decide +kernel
theorem dX4_isSetting_64 : decode cX4_isSetting 64 = .ok (.iload_n 1, 1) := by decide +kernel
theorem dX4_isSetting_65 : decode cX4_isSetting 65 = .ok (.bipush 9, 2) := by decide +kernel
theorem dX4_isSetting_67 : decode cX4_isSetting 67 = .ok (.if_icmp .gt 7, 3) := by decide +kernel
theorem dX4_isSetting_70 : decode cX4_isSetting 70 = .ok (.iconst 1, 1) := by decide +kernel
theorem dX4_isSetting_71 : decode cX4_isSetting 71 = .ok (.goto 4, 3) := by decide +kernel
theorem dX4_isSetting_74 : decode cX4_isSetting 74 = .ok (.iconst 0, 1) := by decide +kernel
theorem dX4_isSetting_75 : decode cX4_isSetting 75 = .ok (.ireturn, 1) := by decide +kernel
theorem dX4_isSetting_76 : decode cX4_isSetting 76 = .ok (.iconst 0, 1) := by decide +kernel
theorem dX4_isSetting_77 : decode cX4_isSetting 77 = .ok (.ireturn, 1) := by decide +kernel
