theorem dX4_init_0 : decode cX4_init 0 = .ok (.aload_n 0, 1) := by decide +kernel
theorem dX4_init_1 : decode cX4_init 1 = .ok (.invokespecial 1, 3) := by decide +kernel
theorem dX4_init_4 : decode cX4_init 4 = .ok (.aload_n 0, 1) := by decide +kernel
theorem dX4_init_5 : decode cX4_init 5 = .ok (.new 7, 3) := by decide +kernel
theorem dX4_init_8 : decode cX4_init 8 = .ok (.dup, 1) := by decide +kernel
theorem dX4_init_9 : decode cX4_init 9 = .ok (.invokespecial 9, 3) := by decide +kernel
theorem dX4_init_12 : decode cX4_init 12 = .ok (.putfield 10, 3) := by decide +kernel
theorem dX4_init_15 : decode cX4_init 15 = .ok (.aload_n 0, 1) := by decide +kernel
theorem dX4_init_16 : decode cX4_init 16 = .ok (.new 16, 3) := by decide +kernel
theorem dX4_init_19 : decode cX4_init 19 = .ok (.dup, 1) := by decide +kernel
theorem dX4_init_20 : decode cX4_init 20 = .ok (.invokespecial 18, 3) := by decide +kernel
theorem dX4_init_23 : decode cX4_init 23 = .ok (.putfield 19, 3) := by decide +kernel
theorem dX4_init_26 : decode cX4_init 26 = .ok (.aload_n 0, 1) := by decide +kernel
theorem dX4_init_27 : decode cX4_init 27 = .ok (.new 16, 3) := by decide +kernel
theorem dX4_init_30 : decode cX4_init 30 = .ok (.dup, 1) := by decide +kernel
theorem dX4_init_31 : decode cX4_init 31 = .ok (.invokespecial 18, 3) := by decide +kernel
theorem dX4_init_34 : decode cX4_init 34 = .ok (.putfield 23, 3) := by decide +kernel
theorem dX4_init_37 : decode cX4_init 37 = .ok (.aload_n 0, 1) := by decide +kernel
theorem dX4_init_38 : decode cX4_init 38 = .ok (.new 26, 3) := by decide +kernel
theorem dX4_init_41 : decode cX4_init 41 = .ok (.dup, 1) := by decide +kernel
theorem dX4_init_42 : decode cX4_init 42 = .ok (.invokespecial 28, 3) := by decide +kernel
theorem dX4_init_45 : decode cX4_init 45 = .ok (.putfield 29, 3) := by decide +kernel
theorem dX4_init_48 : decode cX4_init 48 = .ok (.aload_n 0, 1) := by decide +kernel
theorem dX4_init_49 : decode cX4_init 49 = .ok (.new 33, 3) := by decide +kernel
theorem dX4_init_52 : decode cX4_init 52 = .ok (.dup, 1) := by decide +kernel
theorem dX4_init_53 : decode cX4_init 53 = .ok (.invokespecial 35, 3) := by decide +kernel
theorem dX4_init_56 : decode cX4_init 56 = .ok (.putfield 36, 3) := by decide +kernel
theorem dX4_init_59 : decode cX4_init 59 = .ok (.aload_n 0, 1) := by decide +kernel
theorem dX4_init_60 : decode cX4_init 60 = .ok (.iconst 2, 1) := by decide +kernel
theorem dX4_init_61 : decode cX4_init 61 = .ok (.anewarray 16, 3) := by decide +kernel
theorem dX4_init_64 : decode cX4_init 64 = .ok (.putfield 40, 3) := by decide +kernel
theorem dX4_init_67 : decode cX4_init 67 = .ok (.aload_n 0, 1) := by decide +kernel
theorem dX4_init_68 : decode cX4_init 68 = .ok (.getfield 19, 3) := by decide +kernel
theorem dX4_init_71 : decode cX4_init 71 = .ok (.bipush 16, 2) := by decide +kernel
theorem dX4_init_73 : decode cX4_init 73 = .ok (.invokevirtual 44, 3) := by decide +kernel
theorem dX4_init_76 : decode cX4_init 76 = .ok (.return_, 1) := by decide +kernel
set_option maxRecDepth 20000 in
theorem ggX4_append_X3_isFull : GoodIn wsX4_append wsX3_isFull := goodIn_r _ [10, 11, 12, 23, 24, 25, 26] (by decide +kernel) (by decide +kernel)
set_option maxRecDepth 20000 in
theorem gX4_append_X3_isFull : GoodIn wsX4_append (wsV RX4 55 RX3 yX3_isFull wsX3_isFull) := goodIn_app (goodIn_of _ (by decide +kernel)) ggX4_append_X3_isFull
set_option maxRecDepth 20000 in
theorem ggX4_append_X3_add : GoodIn wsX4_append wsX3_add := goodIn_r _ [16, 11, 12, 23, 24, 25, 26] (by decide +kernel) (by decide +kernel)
set_option maxRecDepth 20000 in
theorem gX4_append_X3_add : GoodIn wsX4_append (wsV RX4 64 RX3 yX3_add wsX3_add) := goodIn_app (goodIn_of _ (by decide +kernel)) ggX4_append_X3_add
theorem dX4_append_0 : decode cX4_append 0 = .ok (.iload_n 1, 1) := by decide +kernel
theorem dX4_append_1 : decode cX4_append 1 = .ok (.ifCond .lt 10, 3) := by decide +kernel
theorem dX4_append_4 : decode cX4_append 4 = .ok (.iload_n 1, 1) := by decide +kernel
theorem dX4_append_5 : decode cX4_append 5 = .ok (.sipush 255, 3) := by decide +kernel
theorem dX4_append_8 : decode cX4_append 8 = .ok (.if_icmp .le 13, 3) := by decide +kernel
theorem dX4_append_11 : decode cX4_append 11 = .ok (.new 48, 3) := by decide +kernel
theorem dX4_append_14 : decode cX4_append 14 = .ok (.dup, 1) := by decide +kernel
theorem dX4_append_15 : decode cX4_append 15 = .ok (.ldc 50, 2) := by decide +kernel
theorem dX4_append_17 : decode cX4_append 17 = .ok (.invokespecial 52, 3) := by decide +kernel
theorem dX4_append_20 : decode cX4_append 20 = .ok (.athrow, 1) := by decide +kernel
theorem dX4_append_21 : decode cX4_append 21 = .ok (.aload_n 0, 1) := by decide +kernel
theorem dX4_append_22 : decode cX4_append 22 = .ok (.getfield 10, 3) := by decide +kernel
theorem dX4_append_25 : decode cX4_append 25 = .ok (.invokevirtual 55, 3) := by decide +kernel
theorem dX4_append_28 : decode cX4_append 28 = .ok (.ifCond .eq 13, 3) := by decide +kernel
theorem dX4_append_31 : decode cX4_append 31 = .ok (.new 59, 3) := by decide +kernel
theorem dX4_append_34 : decode cX4_append 34 = .ok (.dup, 1) := by decide +kernel
theorem dX4_append_35 : decode cX4_append 35 = .ok (.ldc 61, 2) := by decide +kernel
theorem dX4_append_37 : decode cX4_append 37 = .ok (.invokespecial 63, 3) := by decide +kernel
theorem dX4_append_40 : decode cX4_append 40 = .ok (.athrow, 1) := by decide +kernel
theorem dX4_append_41 : decode cX4_append 41 = .ok (.aload_n 0, 1) := by decide +kernel
theorem dX4_append_42 : decode cX4_append 42 = .ok (.getfield 10, 3) := by decide +kernel
theorem dX4_append_45 : decode cX4_append 45 = .ok (.iload_n 1, 1) := by decide +kernel
theorem dX4_append_46 : decode cX4_append 46 = .ok (.i2c, 1) := by decide +kernel
theorem dX4_append_47 : decode cX4_append 47 = .ok (.invokevirtual 64, 3) := by decide +kernel
theorem dX4_append_50 : decode cX4_append 50 = .ok (.ireturn, 1) := by decide +kernel
set_option maxRecDepth 20000 in
theorem ggX4_clearText_X3_empty : GoodIn wsX4_clearText wsX3_empty := goodIn_r _ [6, 7, 14, 15, 16, 17] (by decide +kernel) (by decide +kernel)
set_option maxRecDepth 20000 in
theorem gX4_clearText_X3_empty : GoodIn wsX4_clearText (wsV RX4 68 RX3 yX3_empty wsX3_empty) := goodIn_app (goodIn_of _ (by decide +kernel)) ggX4_clearText_X3_empty
theorem dX4_clearText_0 : decode cX4_clearText 0 = .ok (.aload_n 0, 1) := by decide +kernel
theorem dX4_clearText_1 : decode cX4_clearText 1 = .ok (.getfield 10, 3) := by decide +kernel
theorem dX4_clearText_4 : decode cX4_clearText 4 = .ok (.invokevirtual 68, 3) := by decide +kernel
theorem dX4_clearText_7 : decode cX4_clearText 7 = .ok (.ireturn, 1) := by decide +kernel
set_option maxRecDepth 20000 in
theorem ggX4_errorPosition_X3_readInto : GoodIn wsX4_errorPosition wsX3_readInto := goodIn_r _ [7, 8, 9, 10, 11, 12, 13, 6, 14, 15, 16, 17, 18, 19, 20, 21, 22, 23, 24, 25, 26, 27, 28, 29, 30, 31, 32, 33, 34, 35, 36, 37, 38, 39, 40, 41, 42, 43, 44, 45, 46, 47, 48, 49, 50, 51, 52, 53, 54, 55, 56, 57, 58, 59, 60, 61, 62, 63, 64, 65, 66, 67, 68, 69, 70, 71, 72, 73, 74, 75, 76, 77, 78, 79, 80, 81, 82, 83, 84, 85, 86, 87, 88, 89, 90, 91, 92, 93, 94, 95, 96, 97, 98, 99, 100, 101, 102, 103, 104, 105, 106, 107, 108, 109, 110, 111, 112, 113, 114, 115, 116, 117, 118, 119, 120, 121, 122, 133, 134, 135, 136, 137, 138, 139, 140, 141, 142, 143, 144, 145, 146] (by decide +kernel) (by decide +kernel)
set_option maxRecDepth 20000 in
theorem gX4_errorPosition_X3_readInto : GoodIn wsX4_errorPosition (wsV RX4 72 RX3 yX3_readInto wsX3_readInto) := goodIn_app (goodIn_of _ (by decide +kernel)) ggX4_errorPosition_X3_readInto
set_option maxRecDepth 20000 in
theorem ggX4_errorPosition_X3_position : GoodIn wsX4_errorPosition wsX3_position := goodIn_r _ [126, 8, 133, 134, 135, 136] (by decide +kernel) (by decide +kernel)
set_option maxRecDepth 20000 in
theorem gX4_errorPosition_X3_position : GoodIn wsX4_errorPosition (wsV RX4 76 RX3 yX3_position wsX3_position) := goodIn_app (goodIn_of _ (by decide +kernel)) ggX4_errorPosition_X3_position
theorem dX4_errorPosition_0 : decode cX4_errorPosition 0 = .ok (.aload_n 0, 1) := by decide +kernel
theorem dX4_errorPosition_1 : decode cX4_errorPosition 1 = .ok (.getfield 10, 3) := by decide +kernel
theorem dX4_errorPosition_4 : decode cX4_errorPosition 4 = .ok (.aload_n 0, 1) := by decide +kernel
theorem dX4_errorPosition_5 : decode cX4_errorPosition 5 = .ok (.getfield 23, 3) := by decide +kernel
theorem dX4_errorPosition_8 : decode cX4_errorPosition 8 = .ok (.invokevirtual 72, 3) := by decide +kernel
theorem dX4_errorPosition_11 : decode cX4_errorPosition 11 = .ok (.ifCond .eq 7, 3) := by decide +kernel
theorem dX4_errorPosition_14 : decode cX4_errorPosition 14 = .ok (.iconst (-1), 1) := by decide +kernel
theorem dX4_errorPosition_15 : decode cX4_errorPosition 15 = .ok (.goto 10, 3) := by decide +kernel
theorem dX4_errorPosition_18 : decode cX4_errorPosition 18 = .ok (.aload_n 0, 1) := by decide +kernel
theorem dX4_errorPosition_19 : decode cX4_errorPosition 19 = .ok (.getfield 10, 3) := by decide +kernel
theorem dX4_errorPosition_22 : decode cX4_errorPosition 22 = .ok (.invokevirtual 76, 3) := by decide +kernel
theorem dX4_errorPosition_25 : decode cX4_errorPosition 25 = .ok (.ireturn, 1) := by decide +kernel
set_option maxRecDepth 20000 in
theorem ggX4_load_X3_readInto : GoodIn wsX4_load wsX3_readInto := goodIn_r _ [12, 13, 14, 15, 16, 17, 18, 11, 19, 20, 21, 22, 23, 24, 25, 26, 27, 28, 29, 30, 31, 32, 33, 34, 35, 36, 37, 38, 39, 40, 41, 42, 43, 44, 45, 46, 47, 48, 49, 50, 51, 52, 53, 54, 55, 56, 57, 58, 59, 60, 61, 62, 63, 64, 65, 66, 67, 68, 69, 70, 71, 72, 73, 74, 75, 76, 77, 78, 79, 80, 81, 82, 83, 84, 85, 86, 87, 88, 89, 90, 91, 92, 93, 94, 95, 96, 97, 98, 99, 100, 101, 102, 103, 104, 105, 106, 107, 108, 109, 110, 111, 112, 113, 114, 115, 116, 117, 118, 119, 120, 121, 122, 123, 124, 125, 126, 127, 148, 149, 150, 151, 152, 153, 154, 155, 156, 157, 158, 159, 160, 161] (by decide +kernel) (by decide +kernel)
set_option maxRecDepth 20000 in
theorem gX4_load_X3_readInto : GoodIn wsX4_load (wsV RX4 72 RX3 yX3_readInto wsX3_readInto) := goodIn_app (goodIn_of _ (by decide +kernel)) ggX4_load_X3_readInto
set_option maxRecDepth 20000 in
theorem ggX4_load_X0_takeFrom : GoodIn wsX4_load wsX0_takeFrom := goodIn_r _ [131, 41, 42, 43, 44, 45, 46, 47, 48, 49, 71, 152, 153, 154, 155, 156, 157, 158, 159, 160, 161] (by decide +kernel) (by decide +kernel)
set_option maxRecDepth 20000 in
theorem gX4_load_X0_takeFrom : GoodIn wsX4_load (wsV RX4 81 RX0 yX0_takeFrom wsX0_takeFrom) := goodIn_app (goodIn_of _ (by decide +kernel)) ggX4_load_X0_takeFrom
set_option maxRecDepth 20000 in
theorem ggX4_load_X2_forgetStates : GoodIn wsX4_load wsX2_forgetStates := goodIn_r _ [136, 137, 162, 163, 164] (by decide +kernel) (by decide +kernel)
set_option maxRecDepth 20000 in
theorem gX4_load_X2_forgetStates : GoodIn wsX4_load (wsV RX4 85 RX2 yX2_forgetStates wsX2_forgetStates) := goodIn_app (goodIn_of _ (by decide +kernel)) ggX4_load_X2_forgetStates
set_option maxRecDepth 20000 in
theorem ggX4_load_X3_questionsLeftOut : GoodIn wsX4_load wsX3_questionsLeftOut := goodIn_r _ [141, 14, 148, 149, 150, 151] (by decide +kernel) (by decide +kernel)
set_option maxRecDepth 20000 in
theorem gX4_load_X3_questionsLeftOut : GoodIn wsX4_load (wsV RX4 88 RX3 yX3_questionsLeftOut wsX3_questionsLeftOut) := goodIn_app (goodIn_of _ (by decide +kernel)) ggX4_load_X3_questionsLeftOut
theorem dX4_load_0 : decode cX4_load 0 = .ok (.aload_n 0, 1) := by decide +kernel
theorem dX4_load_1 : decode cX4_load 1 = .ok (.getfield 10, 3) := by decide +kernel
theorem dX4_load_4 : decode cX4_load 4 = .ok (.aload_n 0, 1) := by decide +kernel
theorem dX4_load_5 : decode cX4_load 5 = .ok (.getfield 23, 3) := by decide +kernel
theorem dX4_load_8 : decode cX4_load 8 = .ok (.invokevirtual 72, 3) := by decide +kernel
theorem dX4_load_11 : decode cX4_load 11 = .ok (.ifCond .ne 13, 3) := by decide +kernel
theorem dX4_load_14 : decode cX4_load 14 = .ok (.new 59, 3) := by decide +kernel
theorem dX4_load_17 : decode cX4_load 17 = .ok (.dup, 1) := by decide +kernel
theorem dX4_load_18 : decode cX4_load 18 = .ok (.ldc 79, 2) := by decide +kernel
theorem dX4_load_20 : decode cX4_load 20 = .ok (.invokespecial 63, 3) := by decide +kernel
theorem dX4_load_23 : decode cX4_load 23 = .ok (.athrow, 1) := by decide +kernel
theorem dX4_load_24 : decode cX4_load 24 = .ok (.aload_n 0, 1) := by decide +kernel
theorem dX4_load_25 : decode cX4_load 25 = .ok (.getfield 19, 3) := by decide +kernel
theorem dX4_load_28 : decode cX4_load 28 = .ok (.aload_n 0, 1) := by decide +kernel
theorem dX4_load_29 : decode cX4_load 29 = .ok (.getfield 23, 3) := by decide +kernel
theorem dX4_load_32 : decode cX4_load 32 = .ok (.invokevirtual 81, 3) := by decide +kernel
theorem dX4_load_35 : decode cX4_load 35 = .ok (.aload_n 0, 1) := by decide +kernel
theorem dX4_load_36 : decode cX4_load 36 = .ok (.getfield 36, 3) := by decide +kernel
theorem dX4_load_39 : decode cX4_load 39 = .ok (.invokevirtual 85, 3) := by decide +kernel
theorem dX4_load_42 : decode cX4_load 42 = .ok (.iconst 0, 1) := by decide +kernel
theorem dX4_load_43 : decode cX4_load 43 = .ok (.istore_n 1, 1) := by decide +kernel
theorem dX4_load_44 : decode cX4_load 44 = .ok (.iload_n 1, 1) := by decide +kernel
theorem dX4_load_45 : decode cX4_load 45 = .ok (.aload_n 0, 1) := by decide +kernel
theorem dX4_load_46 : decode cX4_load 46 = .ok (.getfield 40, 3) := by decide +kernel
theorem dX4_load_49 : decode cX4_load 49 = .ok (.arraylength, 1) := by decide +kernel
theorem dX4_load_50 : decode cX4_load 50 = .ok (.if_icmp .ge 16, 3) := by decide +kernel
theorem dX4_load_53 : decode cX4_load 53 = .ok (.aload_n 0, 1) := by decide +kernel
theorem dX4_load_54 : decode cX4_load 54 = .ok (.getfield 40, 3) := by decide +kernel
theorem dX4_load_57 : decode cX4_load 57 = .ok (.iload_n 1, 1) := by decide +kernel
theorem dX4_load_58 : decode cX4_load 58 = .ok (.aconst_null, 1) := by decide +kernel
theorem dX4_load_59 : decode cX4_load 59 = .ok (.aastore, 1) := by decide +kernel
theorem dX4_load_60 : decode cX4_load 60 = .ok (.iinc 1 1, 3) := by decide +kernel
theorem dX4_load_63 : decode cX4_load 63 = .ok (.goto (-19), 3) := by decide +kernel
theorem dX4_load_66 : decode cX4_load 66 = .ok (.aload_n 0, 1) := by decide +kernel
theorem dX4_load_67 : decode cX4_load 67 = .ok (.getfield 10, 3) := by decide +kernel
theorem dX4_load_70 : decode cX4_load 70 = .ok (.invokevirtual 88, 3) := by decide +kernel
theorem dX4_load_73 : decode cX4_load 73 = .ok (.ireturn, 1) := by decide +kernel
set_option maxRecDepth 20000 in
theorem ggX4_about_X0_countKeys : GoodIn wsX4_about wsX0_countKeys := goodIn_r _ [17, 18, 19, 20, 21, 22, 23, 24, 25, 96, 97, 98, 99, 100, 101, 102, 103, 104, 105] (by decide +kernel) (by decide +kernel)
set_option maxRecDepth 20000 in
theorem gX4_about_X0_countKeys : GoodIn wsX4_about (wsV RX4 95 RX0 yX0_countKeys wsX0_countKeys) := goodIn_app (goodIn_of _ (by decide +kernel)) ggX4_about_X0_countKeys
set_option maxRecDepth 20000 in
theorem ggX4_about_X1_learnFrom : GoodIn wsX4_about wsX1_learnFrom := goodIn_r _ [30, 31, 32, 33, 34, 35, 36, 29, 37, 38, 39, 40, 41, 42, 43, 44, 45, 46, 47, 48, 49, 16, 50, 51, 52, 53, 54, 55, 56, 57, 58, 59, 60, 61, 62, 63, 64, 65, 66, 67, 68, 69, 70, 71, 72, 73, 96, 97, 98, 99, 100, 101, 102, 103, 104, 105, 106, 107] (by decide +kernel) (by decide +kernel)
set_option maxRecDepth 20000 in
theorem gX4_about_X1_learnFrom : GoodIn wsX4_about (wsV RX4 119 RX1 yX1_learnFrom wsX1_learnFrom) := goodIn_app (goodIn_of _ (by decide +kernel)) ggX4_about_X1_learnFrom
set_option maxRecDepth 20000 in
theorem ggX4_about_X1_countSure : GoodIn wsX4_about wsX1_countSure := goodIn_r _ [77, 32, 78, 79, 80, 29, 81, 82, 83, 84, 85, 62, 63, 64, 65, 46, 86, 87, 88, 89, 106, 107] (by decide +kernel) (by decide +kernel)
set_option maxRecDepth 20000 in
theorem gX4_about_X1_countSure : GoodIn wsX4_about (wsV RX4 123 RX1 yX1_countSure wsX1_countSure) := goodIn_app (goodIn_of _ (by decide +kernel)) ggX4_about_X1_countSure
theorem dX4_about_0 : decode cX4_about 0 = .ok (.iload_n 1, 1) := by decide +kernel
theorem dX4_about_1 : decode cX4_about 1 = .ok (.tableswitch 147 0 9 #[55, 63, 71, 79, 87, 95, 103, 111, 119, 127], 55) := by decide +kernel
theorem dX4_about_56 : decode cX4_about 56 = .ok (.aload_n 0, 1) := by decide +kernel
theorem dX4_about_57 : decode cX4_about 57 = .ok (.getfield 19, 3) := by decide +kernel
theorem dX4_about_60 : decode cX4_about 60 = .ok (.getfield 91, 3) := by decide +kernel
theorem dX4_about_63 : decode cX4_about 63 = .ok (.ireturn, 1) := by decide +kernel
theorem dX4_about_64 : decode cX4_about 64 = .ok (.aload_n 0, 1) := by decide +kernel
theorem dX4_about_65 : decode cX4_about 65 = .ok (.getfield 19, 3) := by decide +kernel
theorem dX4_about_68 : decode cX4_about 68 = .ok (.invokevirtual 95, 3) := by decide +kernel
theorem dX4_about_71 : decode cX4_about 71 = .ok (.ireturn, 1) := by decide +kernel
theorem dX4_about_72 : decode cX4_about 72 = .ok (.aload_n 0, 1) := by decide +kernel
theorem dX4_about_73 : decode cX4_about 73 = .ok (.getfield 19, 3) := by decide +kernel
theorem dX4_about_76 : decode cX4_about 76 = .ok (.getfield 98, 3) := by decide +kernel
theorem dX4_about_79 : decode cX4_about 79 = .ok (.ireturn, 1) := by decide +kernel
theorem dX4_about_80 : decode cX4_about 80 = .ok (.aload_n 0, 1) := by decide +kernel
theorem dX4_about_81 : decode cX4_about 81 = .ok (.getfield 19, 3) := by decide +kernel
theorem dX4_about_84 : decode cX4_about 84 = .ok (.getfield 101, 3) := by decide +kernel
theorem dX4_about_87 : decode cX4_about 87 = .ok (.ireturn, 1) := by decide +kernel
theorem dX4_about_88 : decode cX4_about 88 = .ok (.aload_n 0, 1) := by decide +kernel
theorem dX4_about_89 : decode cX4_about 89 = .ok (.getfield 19, 3) := by decide +kernel
theorem dX4_about_92 : decode cX4_about 92 = .ok (.getfield 104, 3) := by decide +kernel
theorem dX4_about_95 : decode cX4_about 95 = .ok (.ireturn, 1) := by decide +kernel
theorem dX4_about_96 : decode cX4_about 96 = .ok (.aload_n 0, 1) := by decide +kernel
theorem dX4_about_97 : decode cX4_about 97 = .ok (.getfield 19, 3) := by decide +kernel
theorem dX4_about_100 : decode cX4_about 100 = .ok (.getfield 107, 3) := by decide +kernel
theorem dX4_about_103 : decode cX4_about 103 = .ok (.ireturn, 1) := by decide +kernel
theorem dX4_about_104 : decode cX4_about 104 = .ok (.aload_n 0, 1) := by decide +kernel
theorem dX4_about_105 : decode cX4_about 105 = .ok (.getfield 19, 3) := by decide +kernel
theorem dX4_about_108 : decode cX4_about 108 = .ok (.getfield 110, 3) := by decide +kernel
theorem dX4_about_111 : decode cX4_about 111 = .ok (.ireturn, 1) := by decide +kernel
theorem dX4_about_112 : decode cX4_about 112 = .ok (.aload_n 0, 1) := by decide +kernel
theorem dX4_about_113 : decode cX4_about 113 = .ok (.getfield 19, 3) := by decide +kernel
theorem dX4_about_116 : decode cX4_about 116 = .ok (.getfield 113, 3) := by decide +kernel
theorem dX4_about_119 : decode cX4_about 119 = .ok (.ireturn, 1) := by decide +kernel
theorem dX4_about_120 : decode cX4_about 120 = .ok (.aload_n 0, 1) := by decide +kernel
theorem dX4_about_121 : decode cX4_about 121 = .ok (.getfield 19, 3) := by decide +kernel
theorem dX4_about_124 : decode cX4_about 124 = .ok (.getfield 116, 3) := by decide +kernel
theorem dX4_about_127 : decode cX4_about 127 = .ok (.ireturn, 1) := by decide +kernel
theorem dX4_about_128 : decode cX4_about 128 = .ok (.aload_n 0, 1) := by decide +kernel
theorem dX4_about_129 : decode cX4_about 129 = .ok (.getfield 29, 3) := by decide +kernel
theorem dX4_about_132 : decode cX4_about 132 = .ok (.aload_n 0, 1) := by decide +kernel
theorem dX4_about_133 : decode cX4_about 133 = .ok (.getfield 19, 3) := by decide +kernel
theorem dX4_about_136 : decode cX4_about 136 = .ok (.iconst (-1), 1) := by decide +kernel
theorem dX4_about_137 : decode cX4_about 137 = .ok (.invokevirtual 119, 3) := by decide +kernel
theorem dX4_about_140 : decode cX4_about 140 = .ok (.aload_n 0, 1) := by decide +kernel
theorem dX4_about_141 : decode cX4_about 141 = .ok (.getfield 29, 3) := by decide +kernel
theorem dX4_about_144 : decode cX4_about 144 = .ok (.invokevirtual 123, 3) := by decide +kernel
theorem dX4_about_147 : decode cX4_about 147 = .ok (.ireturn, 1) := by decide +kernel
theorem dX4_about_148 : decode cX4_about 148 = .ok (.new 48, 3) := by decide +kernel
theorem dX4_about_151 : decode cX4_about 151 = .ok (.dup, 1) := by decide +kernel
theorem dX4_about_152 : decode cX4_about 152 = .ok (.ldc 126, 2) := by decide +kernel
theorem dX4_about_154 : decode cX4_about 154 = .ok (.invokespecial 52, 3) := by decide +kernel
theorem dX4_about_157 : decode cX4_about 157 = .ok (.athrow, 1) := by decide +kernel
set_option maxRecDepth 20000 in
theorem ggX4_has_X4_checkPlace : GoodIn wsX4_has wsX4_checkPlace := goodIn_ca (goodIn_r _ [6, 7, 8, 1, 9, 10, 11, 12, 13, 14, 20, 21, 22, 23, 24, 25, 26, 27, 28, 29, 30, 31, 32, 33, 34, 35] (by decide +kernel) (by decide +kernel)) (goodIn_sub (fun _ h => List.mem_cons_of_mem _ (List.mem_append_right _ h)) (by decide +kernel))
set_option maxRecDepth 20000 in
theorem gX4_has_X4_checkPlace : GoodIn wsX4_has (wsV RX4 128 RX4 yX4_checkPlace wsX4_checkPlace) := goodIn_app (goodIn_of _ (by decide +kernel)) ggX4_has_X4_checkPlace
set_option maxRecDepth 20000 in
theorem ggX4_has_X0_hasKey : GoodIn wsX4_has wsX0_hasKey := goodIn_r _ [18, 19, 26, 27, 28, 29, 30, 31, 32, 33, 34, 35] (by decide +kernel) (by decide +kernel)
set_option maxRecDepth 20000 in
theorem gX4_has_X0_hasKey : GoodIn wsX4_has (wsV RX4 131 RX0 yX0_hasKey wsX0_hasKey) := goodIn_app (goodIn_of _ (by decide +kernel)) ggX4_has_X0_hasKey
theorem dX4_has_0 : decode cX4_has 0 = .ok (.aload_n 0, 1) := by decide +kernel
theorem dX4_has_1 : decode cX4_has 1 = .ok (.iload_n 1, 1) := by decide +kernel
theorem dX4_has_2 : decode cX4_has 2 = .ok (.invokevirtual 128, 3) := by decide +kernel
theorem dX4_has_5 : decode cX4_has 5 = .ok (.aload_n 0, 1) := by decide +kernel
theorem dX4_has_6 : decode cX4_has 6 = .ok (.getfield 19, 3) := by decide +kernel
theorem dX4_has_9 : decode cX4_has 9 = .ok (.iload_n 1, 1) := by decide +kernel
theorem dX4_has_10 : decode cX4_has 10 = .ok (.invokevirtual 131, 3) := by decide +kernel
theorem dX4_has_13 : decode cX4_has 13 = .ok (.ireturn, 1) := by decide +kernel
set_option maxRecDepth 20000 in
theorem ggX4_answer_X4_checkAnswer : GoodIn wsX4_answer wsX4_checkAnswer := goodIn_ca (goodIn_r _ [8, 9, 10, 3, 11, 12, 13, 14, 15, 16, 22, 23, 24, 25, 26, 27, 28, 29, 30, 31, 32, 33, 34, 35, 36, 37] (by decide +kernel) (by decide +kernel)) (goodIn_sub (fun _ h => List.mem_cons_of_mem _ (List.mem_append_right _ h)) (by decide +kernel))
set_option maxRecDepth 20000 in
theorem gX4_answer_X4_checkAnswer : GoodIn wsX4_answer (wsV RX4 135 RX4 yX4_checkAnswer wsX4_checkAnswer) := goodIn_app (goodIn_of _ (by decide +kernel)) ggX4_answer_X4_checkAnswer
set_option maxRecDepth 20000 in
theorem ggX4_answer_X0_cell : GoodIn wsX4_answer wsX0_cell := goodIn_r _ [20, 21, 28, 29, 30, 31, 32, 33, 34, 35, 36, 37] (by decide +kernel) (by decide +kernel)
set_option maxRecDepth 20000 in
theorem gX4_answer_X0_cell : GoodIn wsX4_answer (wsV RX4 140 RX0 yX0_cell wsX0_cell) := goodIn_app (goodIn_of _ (by decide +kernel)) ggX4_answer_X0_cell
theorem dX4_answer_0 : decode cX4_answer 0 = .ok (.aload_n 0, 1) := by decide +kernel
theorem dX4_answer_1 : decode cX4_answer 1 = .ok (.iload_n 1, 1) := by decide +kernel
theorem dX4_answer_2 : decode cX4_answer 2 = .ok (.invokevirtual 135, 3) := by decide +kernel
theorem dX4_answer_5 : decode cX4_answer 5 = .ok (.iload_n 2, 1) := by decide +kernel
theorem dX4_answer_6 : decode cX4_answer 6 = .ok (.ifCond .lt 8, 3) := by decide +kernel
theorem dX4_answer_9 : decode cX4_answer 9 = .ok (.iload_n 2, 1) := by decide +kernel
theorem dX4_answer_10 : decode cX4_answer 10 = .ok (.iconst 4, 1) := by decide +kernel
theorem dX4_answer_11 : decode cX4_answer 11 = .ok (.if_icmp .lt 13, 3) := by decide +kernel
theorem dX4_answer_14 : decode cX4_answer 14 = .ok (.new 48, 3) := by decide +kernel
theorem dX4_answer_17 : decode cX4_answer 17 = .ok (.dup, 1) := by decide +kernel
theorem dX4_answer_18 : decode cX4_answer 18 = .ok (.ldc 138, 2) := by decide +kernel
theorem dX4_answer_20 : decode cX4_answer 20 = .ok (.invokespecial 52, 3) := by decide +kernel
theorem dX4_answer_23 : decode cX4_answer 23 = .ok (.athrow, 1) := by decide +kernel
theorem dX4_answer_24 : decode cX4_answer 24 = .ok (.aload_n 0, 1) := by decide +kernel
theorem dX4_answer_25 : decode cX4_answer 25 = .ok (.getfield 19, 3) := by decide +kernel
theorem dX4_answer_28 : decode cX4_answer 28 = .ok (.iload_n 1, 1) := by decide +kernel
theorem dX4_answer_29 : decode cX4_answer 29 = .ok (.iload_n 2, 1) := by decide +kernel
theorem dX4_answer_30 : decode cX4_answer 30 = .ok (.invokevirtual 140, 3) := by decide +kernel
theorem dX4_answer_33 : decode cX4_answer 33 = .ok (.ireturn, 1) := by decide +kernel
set_option maxRecDepth 20000 in
theorem ggX4_least_X4_checkRange : GoodIn wsX4_least wsX4_checkRange := goodIn_ca (goodIn_ca (goodIn_r _ [7, 8, 9, 10, 11, 12, 6, 13, 14, 15, 2, 16, 17, 18, 19, 20, 21, 74, 75, 76, 77, 78, 79, 80, 81, 82, 83, 84, 85, 86, 87, 88, 89] (by decide +kernel) (by decide +kernel)) (goodIn_sub (fun _ h => List.mem_cons_of_mem _ (List.mem_append_left _ (List.mem_append_right _ h))) (by decide +kernel))) (goodIn_sub (fun _ h => List.mem_cons_of_mem _ (List.mem_append_right _ h)) (by decide +kernel))
set_option maxRecDepth 20000 in
theorem gX4_least_X4_checkRange : GoodIn wsX4_least (wsV RX4 144 RX4 yX4_checkRange wsX4_checkRange) := goodIn_app (goodIn_of _ (by decide +kernel)) ggX4_least_X4_checkRange
set_option maxRecDepth 20000 in
theorem ggX4_least_X1_learnFrom : GoodIn wsX4_least wsX1_learnFrom := goodIn_r _ [26, 27, 28, 29, 30, 31, 32, 25, 33, 34, 35, 36, 37, 38, 39, 40, 41, 42, 43, 44, 45, 19, 46, 47, 48, 49, 50, 51, 52, 53, 54, 55, 56, 57, 58, 59, 60, 61, 62, 63, 64, 65, 66, 67, 68, 69, 80, 81, 82, 83, 84, 85, 86, 87, 88, 89, 90, 91] (by decide +kernel) (by decide +kernel)
set_option maxRecDepth 20000 in
theorem gX4_least_X1_learnFrom : GoodIn wsX4_least (wsV RX4 119 RX1 yX1_learnFrom wsX1_learnFrom) := goodIn_app (goodIn_of _ (by decide +kernel)) ggX4_least_X1_learnFrom
set_option maxRecDepth 20000 in
theorem ggX4_least_X1_fewestKeys : GoodIn wsX4_least wsX1_fewestKeys := goodIn_r _ [73, 58, 59, 60, 25, 61, 42, 90, 91] (by decide +kernel) (by decide +kernel)
set_option maxRecDepth 20000 in
theorem gX4_least_X1_fewestKeys : GoodIn wsX4_least (wsV RX4 148 RX1 yX1_fewestKeys wsX1_fewestKeys) := goodIn_app (goodIn_of _ (by decide +kernel)) ggX4_least_X1_fewestKeys
theorem dX4_least_0 : decode cX4_least 0 = .ok (.aload_n 0, 1) := by decide +kernel
theorem dX4_least_1 : decode cX4_least 1 = .ok (.iload_n 1, 1) := by decide +kernel
theorem dX4_least_2 : decode cX4_least 2 = .ok (.iload_n 2, 1) := by decide +kernel
theorem dX4_least_3 : decode cX4_least 3 = .ok (.invokevirtual 144, 3) := by decide +kernel
theorem dX4_least_6 : decode cX4_least 6 = .ok (.aload_n 0, 1) := by decide +kernel
theorem dX4_least_7 : decode cX4_least 7 = .ok (.getfield 29, 3) := by decide +kernel
theorem dX4_least_10 : decode cX4_least 10 = .ok (.aload_n 0, 1) := by decide +kernel
theorem dX4_least_11 : decode cX4_least 11 = .ok (.getfield 19, 3) := by decide +kernel
theorem dX4_least_14 : decode cX4_least 14 = .ok (.iconst (-1), 1) := by decide +kernel
theorem dX4_least_15 : decode cX4_least 15 = .ok (.invokevirtual 119, 3) := by decide +kernel
theorem dX4_least_18 : decode cX4_least 18 = .ok (.aload_n 0, 1) := by decide +kernel
theorem dX4_least_19 : decode cX4_least 19 = .ok (.getfield 29, 3) := by decide +kernel
theorem dX4_least_22 : decode cX4_least 22 = .ok (.iload_n 1, 1) := by decide +kernel
theorem dX4_least_23 : decode cX4_least 23 = .ok (.iload_n 2, 1) := by decide +kernel
theorem dX4_least_24 : decode cX4_least 24 = .ok (.invokevirtual 148, 3) := by decide +kernel
theorem dX4_least_27 : decode cX4_least 27 = .ok (.ireturn, 1) := by decide +kernel
set_option maxRecDepth 20000 in
theorem ggX4_most_X4_checkRange : GoodIn wsX4_most wsX4_checkRange := goodIn_ca (goodIn_ca (goodIn_r _ [7, 8, 9, 10, 11, 12, 6, 13, 14, 15, 2, 16, 17, 18, 19, 20, 21, 74, 75, 76, 77, 78, 79, 80, 81, 82, 83, 84, 85, 86, 87, 88, 89] (by decide +kernel) (by decide +kernel)) (goodIn_sub (fun _ h => List.mem_cons_of_mem _ (List.mem_append_left _ (List.mem_append_right _ h))) (by decide +kernel))) (goodIn_sub (fun _ h => List.mem_cons_of_mem _ (List.mem_append_right _ h)) (by decide +kernel))
set_option maxRecDepth 20000 in
theorem gX4_most_X4_checkRange : GoodIn wsX4_most (wsV RX4 144 RX4 yX4_checkRange wsX4_checkRange) := goodIn_app (goodIn_of _ (by decide +kernel)) ggX4_most_X4_checkRange
set_option maxRecDepth 20000 in
theorem ggX4_most_X1_learnFrom : GoodIn wsX4_most wsX1_learnFrom := goodIn_r _ [26, 27, 28, 29, 30, 31, 32, 25, 33, 34, 35, 36, 37, 38, 39, 40, 41, 42, 43, 44, 45, 19, 46, 47, 48, 49, 50, 51, 52, 53, 54, 55, 56, 57, 58, 59, 60, 61, 62, 63, 64, 65, 66, 67, 68, 69, 80, 81, 82, 83, 84, 85, 86, 87, 88, 89, 90, 91] (by decide +kernel) (by decide +kernel)
set_option maxRecDepth 20000 in
theorem gX4_most_X1_learnFrom : GoodIn wsX4_most (wsV RX4 119 RX1 yX1_learnFrom wsX1_learnFrom) := goodIn_app (goodIn_of _ (by decide +kernel)) ggX4_most_X1_learnFrom
set_option maxRecDepth 20000 in
theorem ggX4_most_X1_greatestKeys : GoodIn wsX4_most wsX1_greatestKeys := goodIn_r _ [73, 58, 59, 60, 25, 61, 42, 90, 91] (by decide +kernel) (by decide +kernel)
set_option maxRecDepth 20000 in
theorem gX4_most_X1_greatestKeys : GoodIn wsX4_most (wsV RX4 151 RX1 yX1_greatestKeys wsX1_greatestKeys) := goodIn_app (goodIn_of _ (by decide +kernel)) ggX4_most_X1_greatestKeys
theorem dX4_most_0 : decode cX4_most 0 = .ok (.aload_n 0, 1) := by decide +kernel
theorem dX4_most_1 : decode cX4_most 1 = .ok (.iload_n 1, 1) := by decide +kernel
theorem dX4_most_2 : decode cX4_most 2 = .ok (.iload_n 2, 1) := by decide +kernel
theorem dX4_most_3 : decode cX4_most 3 = .ok (.invokevirtual 144, 3) := by decide +kernel
theorem dX4_most_6 : decode cX4_most 6 = .ok (.aload_n 0, 1) := by decide +kernel
theorem dX4_most_7 : decode cX4_most 7 = .ok (.getfield 29, 3) := by decide +kernel
theorem dX4_most_10 : decode cX4_most 10 = .ok (.aload_n 0, 1) := by decide +kernel
theorem dX4_most_11 : decode cX4_most 11 = .ok (.getfield 19, 3) := by decide +kernel
theorem dX4_most_14 : decode cX4_most 14 = .ok (.iconst (-1), 1) := by decide +kernel
theorem dX4_most_15 : decode cX4_most 15 = .ok (.invokevirtual 119, 3) := by decide +kernel
theorem dX4_most_18 : decode cX4_most 18 = .ok (.aload_n 0, 1) := by decide +kernel
theorem dX4_most_19 : decode cX4_most 19 = .ok (.getfield 29, 3) := by decide +kernel
theorem dX4_most_22 : decode cX4_most 22 = .ok (.iload_n 1, 1) := by decide +kernel
theorem dX4_most_23 : decode cX4_most 23 = .ok (.iload_n 2, 1) := by decide +kernel
theorem dX4_most_24 : decode cX4_most 24 = .ok (.invokevirtual 151, 3) := by decide +kernel
theorem dX4_most_27 : decode cX4_most 27 = .ok (.ireturn, 1) := by decide +kernel
set_option maxRecDepth 20000 in
theorem ggX4_known_X4_checkPlace : GoodIn wsX4_known wsX4_checkPlace := goodIn_ca (goodIn_r _ [7, 8, 9, 2, 10, 11, 12, 13, 14, 15, 76, 77, 78, 79, 80, 81, 82, 83, 84, 85, 86, 87, 88, 89, 90, 91] (by decide +kernel) (by decide +kernel)) (goodIn_sub (fun _ h => List.mem_cons_of_mem _ (List.mem_append_right _ h)) (by decide +kernel))
set_option maxRecDepth 20000 in
theorem gX4_known_X4_checkPlace : GoodIn wsX4_known (wsV RX4 128 RX4 yX4_checkPlace wsX4_checkPlace) := goodIn_app (goodIn_of _ (by decide +kernel)) ggX4_known_X4_checkPlace
set_option maxRecDepth 20000 in
theorem ggX4_known_X1_learnFrom : GoodIn wsX4_known wsX1_learnFrom := goodIn_r _ [20, 21, 22, 23, 24, 25, 26, 19, 27, 28, 29, 30, 31, 32, 33, 34, 35, 36, 37, 38, 39, 13, 40, 41, 42, 43, 44, 45, 46, 47, 48, 49, 50, 51, 52, 53, 54, 55, 56, 57, 58, 59, 60, 61, 62, 63, 82, 83, 84, 85, 86, 87, 88, 89, 90, 91, 92, 93] (by decide +kernel) (by decide +kernel)
set_option maxRecDepth 20000 in
theorem gX4_known_X1_learnFrom : GoodIn wsX4_known (wsV RX4 119 RX1 yX1_learnFrom wsX1_learnFrom) := goodIn_app (goodIn_of _ (by decide +kernel)) ggX4_known_X1_learnFrom
set_option maxRecDepth 20000 in
theorem ggX4_known_X1_sure : GoodIn wsX4_known wsX1_sure := goodIn_r _ [67, 68, 69, 70, 19, 71, 52, 53, 54, 55, 36, 72, 73, 74, 75, 92, 93] (by decide +kernel) (by decide +kernel)
set_option maxRecDepth 20000 in
theorem gX4_known_X1_sure : GoodIn wsX4_known (wsV RX4 154 RX1 yX1_sure wsX1_sure) := goodIn_app (goodIn_of _ (by decide +kernel)) ggX4_known_X1_sure
theorem dX4_known_0 : decode cX4_known 0 = .ok (.aload_n 0, 1) := by decide +kernel
theorem dX4_known_1 : decode cX4_known 1 = .ok (.iload_n 1, 1) := by decide +kernel
theorem dX4_known_2 : decode cX4_known 2 = .ok (.invokevirtual 128, 3) := by decide +kernel
theorem dX4_known_5 : decode cX4_known 5 = .ok (.aload_n 0, 1) := by decide +kernel
theorem dX4_known_6 : decode cX4_known 6 = .ok (.getfield 29, 3) := by decide +kernel
theorem dX4_known_9 : decode cX4_known 9 = .ok (.aload_n 0, 1) := by decide +kernel
theorem dX4_known_10 : decode cX4_known 10 = .ok (.getfield 19, 3) := by decide +kernel
theorem dX4_known_13 : decode cX4_known 13 = .ok (.iconst (-1), 1) := by decide +kernel
theorem dX4_known_14 : decode cX4_known 14 = .ok (.invokevirtual 119, 3) := by decide +kernel
theorem dX4_known_17 : decode cX4_known 17 = .ok (.aload_n 0, 1) := by decide +kernel
theorem dX4_known_18 : decode cX4_known 18 = .ok (.getfield 29, 3) := by decide +kernel
theorem dX4_known_21 : decode cX4_known 21 = .ok (.iload_n 1, 1) := by decide +kernel
theorem dX4_known_22 : decode cX4_known 22 = .ok (.invokevirtual 154, 3) := by decide +kernel
theorem dX4_known_25 : decode cX4_known 25 = .ok (.ireturn, 1) := by decide +kernel
set_option maxRecDepth 20000 in
theorem ggX4_knownAt_X1_learnFrom : GoodIn wsX4_knownAt wsX1_learnFrom := goodIn_r _ [9, 10, 11, 12, 13, 14, 15, 8, 16, 17, 18, 19, 20, 21, 22, 23, 24, 25, 26, 27, 28, 29, 30, 31, 32, 33, 34, 35, 36, 37, 38, 39, 40, 41, 42, 43, 44, 45, 46, 47, 48, 49, 50, 51, 52, 53, 76, 77, 78, 79, 80, 81, 82, 83, 84, 85, 86, 87] (by decide +kernel) (by decide +kernel)
set_option maxRecDepth 20000 in
theorem gX4_knownAt_X1_learnFrom : GoodIn wsX4_knownAt (wsV RX4 119 RX1 yX1_learnFrom wsX1_learnFrom) := goodIn_app (goodIn_of _ (by decide +kernel)) ggX4_knownAt_X1_learnFrom
set_option maxRecDepth 20000 in
theorem ggX4_knownAt_X1_surePlace : GoodIn wsX4_knownAt wsX1_surePlace := goodIn_r _ [57, 11, 58, 59, 60, 8, 61, 62, 63, 64, 65, 42, 43, 44, 45, 25, 66, 67, 68, 69, 86, 87] (by decide +kernel) (by decide +kernel)
set_option maxRecDepth 20000 in
theorem gX4_knownAt_X1_surePlace : GoodIn wsX4_knownAt (wsV RX4 160 RX1 yX1_surePlace wsX1_surePlace) := goodIn_app (goodIn_of _ (by decide +kernel)) ggX4_knownAt_X1_surePlace
theorem dX4_knownAt_0 : decode cX4_knownAt 0 = .ok (.iload_n 1, 1) := by decide +kernel
theorem dX4_knownAt_1 : decode cX4_knownAt 1 = .ok (.ifCond .ge 13, 3) := by decide +kernel
theorem dX4_knownAt_4 : decode cX4_knownAt 4 = .ok (.new 48, 3) := by decide +kernel
theorem dX4_knownAt_7 : decode cX4_knownAt 7 = .ok (.dup, 1) := by decide +kernel
theorem dX4_knownAt_8 : decode cX4_knownAt 8 = .ok (.ldc 158, 2) := by decide +kernel
theorem dX4_knownAt_10 : decode cX4_knownAt 10 = .ok (.invokespecial 52, 3) := by decide +kernel
theorem dX4_knownAt_13 : decode cX4_knownAt 13 = .ok (.athrow, 1) := by decide +kernel
theorem dX4_knownAt_14 : decode cX4_knownAt 14 = .ok (.aload_n 0, 1) := by decide +kernel
theorem dX4_knownAt_15 : decode cX4_knownAt 15 = .ok (.getfield 29, 3) := by decide +kernel
theorem dX4_knownAt_18 : decode cX4_knownAt 18 = .ok (.aload_n 0, 1) := by decide +kernel
theorem dX4_knownAt_19 : decode cX4_knownAt 19 = .ok (.getfield 19, 3) := by decide +kernel
theorem dX4_knownAt_22 : decode cX4_knownAt 22 = .ok (.iconst (-1), 1) := by decide +kernel
theorem dX4_knownAt_23 : decode cX4_knownAt 23 = .ok (.invokevirtual 119, 3) := by decide +kernel
theorem dX4_knownAt_26 : decode cX4_knownAt 26 = .ok (.aload_n 0, 1) := by decide +kernel
theorem dX4_knownAt_27 : decode cX4_knownAt 27 = .ok (.getfield 29, 3) := by decide +kernel
theorem dX4_knownAt_30 : decode cX4_knownAt 30 = .ok (.iload_n 1, 1) := by decide +kernel
theorem dX4_knownAt_31 : decode cX4_knownAt 31 = .ok (.invokevirtual 160, 3) := by decide +kernel
theorem dX4_knownAt_34 : decode cX4_knownAt 34 = .ok (.ireturn, 1) := by decide +kernel
set_option maxRecDepth 20000 in
theorem ggX4_write_X4_checkPlace : GoodIn wsX4_write wsX4_checkPlace := goodIn_ca (goodIn_r _ [7, 8, 9, 2, 10, 11, 12, 13, 14, 15, 68, 69, 70, 71, 72, 73, 74, 75, 76, 77, 78, 79, 80, 81, 82, 83] (by decide +kernel) (by decide +kernel)) (goodIn_sub (fun _ h => List.mem_cons_of_mem _ (List.mem_append_right _ h)) (by decide +kernel))
set_option maxRecDepth 20000 in
theorem gX4_write_X4_checkPlace : GoodIn wsX4_write (wsV RX4 128 RX4 yX4_checkPlace wsX4_checkPlace) := goodIn_app (goodIn_of _ (by decide +kernel)) ggX4_write_X4_checkPlace
set_option maxRecDepth 20000 in
theorem ggX4_write_X2_remember : GoodIn wsX4_write wsX2_remember := goodIn_r _ [20, 21, 22, 23, 24, 13, 25, 26, 27, 28, 29, 30, 31, 32, 33, 34, 35, 36, 37, 38, 39, 40, 15, 41, 42, 43, 44, 45, 46, 47, 48, 84, 85, 86, 74, 75, 76, 77, 78, 79, 80, 81, 82, 83] (by decide +kernel) (by decide +kernel)
set_option maxRecDepth 20000 in
theorem gX4_write_X2_remember : GoodIn wsX4_write (wsV RX4 163 RX2 yX2_remember wsX2_remember) := goodIn_app (goodIn_of _ (by decide +kernel)) ggX4_write_X2_remember
set_option maxRecDepth 20000 in
theorem ggX4_write_X0_putKey : GoodIn wsX4_write wsX0_putKey := goodIn_r _ [52, 48, 44, 53, 54, 55, 13, 56, 57, 58, 59, 60, 36, 61, 62, 63, 64, 65, 66, 28, 67, 47, 74, 75, 76, 77, 78, 79, 80, 81, 82, 83] (by decide +kernel) (by decide +kernel)
set_option maxRecDepth 20000 in
theorem gX4_write_X0_putKey : GoodIn wsX4_write (wsV RX4 166 RX0 yX0_putKey wsX0_putKey) := goodIn_app (goodIn_of _ (by decide +kernel)) ggX4_write_X0_putKey
theorem dX4_write_0 : decode cX4_write 0 = .ok (.aload_n 0, 1) := by decide +kernel
theorem dX4_write_1 : decode cX4_write 1 = .ok (.iload_n 1, 1) := by decide +kernel
theorem dX4_write_2 : decode cX4_write 2 = .ok (.invokevirtual 128, 3) := by decide +kernel
theorem dX4_write_5 : decode cX4_write 5 = .ok (.aload_n 0, 1) := by decide +kernel
theorem dX4_write_6 : decode cX4_write 6 = .ok (.getfield 36, 3) := by decide +kernel
theorem dX4_write_9 : decode cX4_write 9 = .ok (.aload_n 0, 1) := by decide +kernel
theorem dX4_write_10 : decode cX4_write 10 = .ok (.getfield 19, 3) := by decide +kernel
theorem dX4_write_13 : decode cX4_write 13 = .ok (.invokevirtual 163, 3) := by decide +kernel
theorem dX4_write_16 : decode cX4_write 16 = .ok (.aload_n 0, 1) := by decide +kernel
theorem dX4_write_17 : decode cX4_write 17 = .ok (.getfield 19, 3) := by decide +kernel
theorem dX4_write_20 : decode cX4_write 20 = .ok (.iload_n 1, 1) := by decide +kernel
theorem dX4_write_21 : decode cX4_write 21 = .ok (.iload_n 2, 1) := by decide +kernel
theorem dX4_write_22 : decode cX4_write 22 = .ok (.invokevirtual 166, 3) := by decide +kernel
theorem dX4_write_25 : decode cX4_write 25 = .ok (.ireturn, 1) := by decide +kernel
set_option maxRecDepth 20000 in
theorem ggX4_set_X4_isSetting : GoodIn wsX4_set wsX4_isSetting := goodIn_r _ [8] (by decide +kernel) (by decide +kernel)
set_option maxRecDepth 20000 in
theorem gX4_set_X4_isSetting : GoodIn wsX4_set (va_wsS RX4 170 yX4_isSetting wsX4_isSetting) := goodIn_app (goodIn_of _ (by decide +kernel)) ggX4_set_X4_isSetting
set_option maxRecDepth 20000 in
theorem ggX4_set_X2_remember : GoodIn wsX4_set wsX2_remember := goodIn_r _ [13, 14, 15, 16, 17, 18, 19, 20, 21, 22, 23, 24, 25, 26, 27, 28, 29, 30, 31, 32, 33, 34, 35, 36, 37, 38, 39, 40, 41, 42, 43, 58, 59, 60, 61, 62, 63, 64, 65, 66, 67, 68, 69, 70] (by decide +kernel) (by decide +kernel)
set_option maxRecDepth 20000 in
theorem gX4_set_X2_remember : GoodIn wsX4_set (wsV RX4 163 RX2 yX2_remember wsX2_remember) := goodIn_app (goodIn_of _ (by decide +kernel)) ggX4_set_X2_remember
set_option maxRecDepth 20000 in
theorem ggX4_set_X0_change : GoodIn wsX4_set wsX0_change := goodIn_r _ [47, 36, 37, 38, 48, 49, 50, 18, 51, 42, 39, 61, 62, 63, 64, 65, 66, 67, 68, 69, 70] (by decide +kernel) (by decide +kernel)
set_option maxRecDepth 20000 in
theorem gX4_set_X0_change : GoodIn wsX4_set (wsV RX4 176 RX0 yX0_change wsX0_change) := goodIn_app (goodIn_of _ (by decide +kernel)) ggX4_set_X0_change
theorem dX4_set_0 : decode cX4_set 0 = .ok (.iload_n 1, 1) := by decide +kernel
theorem dX4_set_1 : decode cX4_set 1 = .ok (.iload_n 2, 1) := by decide +kernel
theorem dX4_set_2 : decode cX4_set 2 = .ok (.invokestatic 170, 3) := by decide +kernel
theorem dX4_set_5 : decode cX4_set 5 = .ok (.ifCond .ne 13, 3) := by decide +kernel
theorem dX4_set_8 : decode cX4_set 8 = .ok (.new 48, 3) := by decide +kernel
theorem dX4_set_11 : decode cX4_set 11 = .ok (.dup, 1) := by decide +kernel
theorem dX4_set_12 : decode cX4_set 12 = .ok (.ldc 174, 2) := by decide +kernel
theorem dX4_set_14 : decode cX4_set 14 = .ok (.invokespecial 52, 3) := by decide +kernel
theorem dX4_set_17 : decode cX4_set 17 = .ok (.athrow, 1) := by decide +kernel
theorem dX4_set_18 : decode cX4_set 18 = .ok (.aload_n 0, 1) := by decide +kernel
theorem dX4_set_19 : decode cX4_set 19 = .ok (.getfield 36, 3) := by decide +kernel
theorem dX4_set_22 : decode cX4_set 22 = .ok (.aload_n 0, 1) := by decide +kernel
theorem dX4_set_23 : decode cX4_set 23 = .ok (.getfield 19, 3) := by decide +kernel
theorem dX4_set_26 : decode cX4_set 26 = .ok (.invokevirtual 163, 3) := by decide +kernel
theorem dX4_set_29 : decode cX4_set 29 = .ok (.aload_n 0, 1) := by decide +kernel
theorem dX4_set_30 : decode cX4_set 30 = .ok (.getfield 19, 3) := by decide +kernel
theorem dX4_set_33 : decode cX4_set 33 = .ok (.iload_n 1, 1) := by decide +kernel
theorem dX4_set_34 : decode cX4_set 34 = .ok (.iload_n 2, 1) := by decide +kernel
theorem dX4_set_35 : decode cX4_set 35 = .ok (.invokevirtual 176, 3) := by decide +kernel
theorem dX4_set_38 : decode cX4_set 38 = .ok (.ireturn, 1) := by decide +kernel
set_option maxRecDepth 20000 in
theorem ggX4_ask_X4_checkRange : GoodIn wsX4_ask wsX4_checkRange := goodIn_ca (goodIn_ca (goodIn_r _ [9, 10, 11, 12, 13, 14, 8, 15, 16, 17, 3, 18, 19, 20, 21, 22, 23, 103, 104, 105, 106, 107, 108, 109, 110, 111, 112, 113, 114, 115, 116, 117, 118] (by decide +kernel) (by decide +kernel)) (goodIn_sub (fun _ h => List.mem_cons_of_mem _ (List.mem_append_left _ (List.mem_append_right _ h))) (by decide +kernel))) (goodIn_sub (fun _ h => List.mem_cons_of_mem _ (List.mem_append_right _ h)) (by decide +kernel))
set_option maxRecDepth 20000 in
theorem gX4_ask_X4_checkRange : GoodIn wsX4_ask (wsV RX4 144 RX4 yX4_checkRange wsX4_checkRange) := goodIn_app (goodIn_of _ (by decide +kernel)) ggX4_ask_X4_checkRange
set_option maxRecDepth 20000 in
theorem ggX4_ask_X0_isNarrow : GoodIn wsX4_ask wsX0_isNarrow := goodIn_r _ [27, 28, 109, 110, 111, 112, 113, 114, 115, 116, 117, 118] (by decide +kernel) (by decide +kernel)
set_option maxRecDepth 20000 in
theorem gX4_ask_X0_isNarrow : GoodIn wsX4_ask (wsV RX4 179 RX0 yX0_isNarrow wsX0_isNarrow) := goodIn_app (goodIn_of _ (by decide +kernel)) ggX4_ask_X0_isNarrow
set_option maxRecDepth 20000 in
theorem ggX4_ask_X2_remember : GoodIn wsX4_ask wsX2_remember := goodIn_r _ [33, 34, 35, 36, 37, 21, 38, 39, 40, 41, 42, 43, 44, 45, 46, 47, 48, 49, 50, 51, 52, 53, 23, 28, 54, 55, 56, 57, 58, 59, 60, 119, 120, 121, 109, 110, 111, 112, 113, 114, 115, 116, 117, 118] (by decide +kernel) (by decide +kernel)
set_option maxRecDepth 20000 in
theorem gX4_ask_X2_remember : GoodIn wsX4_ask (wsV RX4 163 RX2 yX2_remember wsX2_remember) := goodIn_app (goodIn_of _ (by decide +kernel)) ggX4_ask_X2_remember
set_option maxRecDepth 20000 in
theorem ggX4_ask_X0_question : GoodIn wsX4_ask wsX0_question := goodIn_r _ [64, 57, 58, 65, 66, 67, 21, 68, 60, 54, 69, 70, 71, 72, 73, 74, 75, 76, 77, 78, 79, 56, 80, 81, 82, 83, 49, 84, 85, 86, 87, 55, 88, 89, 90, 91, 92, 93, 94, 95, 96, 97, 41, 98, 59, 99, 100, 101, 102, 109, 110, 111, 112, 113, 114, 115, 116, 117, 118] (by decide +kernel) (by decide +kernel)
set_option maxRecDepth 20000 in
theorem gX4_ask_X0_question : GoodIn wsX4_ask (wsV RX4 184 RX0 yX0_question wsX0_question) := goodIn_app (goodIn_of _ (by decide +kernel)) ggX4_ask_X0_question
theorem dX4_ask_0 : decode cX4_ask 0 = .ok (.aload_n 0, 1) := by decide +kernel
theorem dX4_ask_1 : decode cX4_ask 1 = .ok (.iload_n 1, 1) := by decide +kernel
theorem dX4_ask_2 : decode cX4_ask 2 = .ok (.iload_n 2, 1) := by decide +kernel
theorem dX4_ask_3 : decode cX4_ask 3 = .ok (.invokevirtual 144, 3) := by decide +kernel
theorem dX4_ask_6 : decode cX4_ask 6 = .ok (.aload_n 0, 1) := by decide +kernel
theorem dX4_ask_7 : decode cX4_ask 7 = .ok (.getfield 19, 3) := by decide +kernel
theorem dX4_ask_10 : decode cX4_ask 10 = .ok (.iload_n 1, 1) := by decide +kernel
theorem dX4_ask_11 : decode cX4_ask 11 = .ok (.iload_n 2, 1) := by decide +kernel
theorem dX4_ask_12 : decode cX4_ask 12 = .ok (.invokevirtual 179, 3) := by decide +kernel
theorem dX4_ask_15 : decode cX4_ask 15 = .ok (.ifCond .eq 13, 3) := by decide +kernel
theorem dX4_ask_18 : decode cX4_ask 18 = .ok (.new 59, 3) := by decide +kernel
theorem dX4_ask_21 : decode cX4_ask 21 = .ok (.dup, 1) := by decide +kernel
theorem dX4_ask_22 : decode cX4_ask 22 = .ok (.ldc 182, 2) := by decide +kernel
theorem dX4_ask_24 : decode cX4_ask 24 = .ok (.invokespecial 63, 3) := by decide +kernel
theorem dX4_ask_27 : decode cX4_ask 27 = .ok (.athrow, 1) := by decide +kernel
theorem dX4_ask_28 : decode cX4_ask 28 = .ok (.aload_n 0, 1) := by decide +kernel
theorem dX4_ask_29 : decode cX4_ask 29 = .ok (.getfield 36, 3) := by decide +kernel
theorem dX4_ask_32 : decode cX4_ask 32 = .ok (.aload_n 0, 1) := by decide +kernel
theorem dX4_ask_33 : decode cX4_ask 33 = .ok (.getfield 19, 3) := by decide +kernel
theorem dX4_ask_36 : decode cX4_ask 36 = .ok (.invokevirtual 163, 3) := by decide +kernel
theorem dX4_ask_39 : decode cX4_ask 39 = .ok (.aload_n 0, 1) := by decide +kernel
theorem dX4_ask_40 : decode cX4_ask 40 = .ok (.getfield 19, 3) := by decide +kernel
theorem dX4_ask_43 : decode cX4_ask 43 = .ok (.iload_n 1, 1) := by decide +kernel
theorem dX4_ask_44 : decode cX4_ask 44 = .ok (.iload_n 2, 1) := by decide +kernel
theorem dX4_ask_45 : decode cX4_ask 45 = .ok (.invokevirtual 184, 3) := by decide +kernel
theorem dX4_ask_48 : decode cX4_ask 48 = .ok (.ireturn, 1) := by decide +kernel
set_option maxRecDepth 20000 in
theorem ggX4_forget_X4_checkAnswer : GoodIn wsX4_forget wsX4_checkAnswer := goodIn_ca (goodIn_r _ [8, 9, 10, 2, 11, 12, 13, 14, 15, 16, 57, 58, 59, 60, 61, 62, 63, 64, 65, 66, 67, 68, 69, 70, 71, 72] (by decide +kernel) (by decide +kernel)) (goodIn_sub (fun _ h => List.mem_cons_of_mem _ (List.mem_append_right _ h)) (by decide +kernel))
set_option maxRecDepth 20000 in
theorem gX4_forget_X4_checkAnswer : GoodIn wsX4_forget (wsV RX4 135 RX4 yX4_checkAnswer wsX4_checkAnswer) := goodIn_app (goodIn_of _ (by decide +kernel)) ggX4_forget_X4_checkAnswer
set_option maxRecDepth 20000 in
theorem ggX4_forget_X2_remember : GoodIn wsX4_forget wsX2_remember := goodIn_r _ [21, 22, 23, 24, 25, 14, 26, 27, 28, 29, 30, 31, 32, 33, 34, 35, 36, 37, 38, 39, 40, 41, 42, 43, 44, 45, 16, 46, 47, 48, 49, 73, 74, 75, 63, 64, 65, 66, 67, 68, 69, 70, 71, 72] (by decide +kernel) (by decide +kernel)
set_option maxRecDepth 20000 in
theorem gX4_forget_X2_remember : GoodIn wsX4_forget (wsV RX4 163 RX2 yX2_remember wsX2_remember) := goodIn_app (goodIn_of _ (by decide +kernel)) ggX4_forget_X2_remember
set_option maxRecDepth 20000 in
theorem ggX4_forget_X0_drop : GoodIn wsX4_forget wsX0_drop := goodIn_r _ [53, 54, 55, 29, 56, 37, 16, 48, 63, 64, 65, 66, 67, 68, 69, 70, 71, 72] (by decide +kernel) (by decide +kernel)
set_option maxRecDepth 20000 in
theorem gX4_forget_X0_drop : GoodIn wsX4_forget (wsV RX4 187 RX0 yX0_drop wsX0_drop) := goodIn_app (goodIn_of _ (by decide +kernel)) ggX4_forget_X0_drop
theorem dX4_forget_0 : decode cX4_forget 0 = .ok (.aload_n 0, 1) := by decide +kernel
theorem dX4_forget_1 : decode cX4_forget 1 = .ok (.iload_n 1, 1) := by decide +kernel
theorem dX4_forget_2 : decode cX4_forget 2 = .ok (.invokevirtual 135, 3) := by decide +kernel
theorem dX4_forget_5 : decode cX4_forget 5 = .ok (.aload_n 0, 1) := by decide +kernel
theorem dX4_forget_6 : decode cX4_forget 6 = .ok (.getfield 36, 3) := by decide +kernel
theorem dX4_forget_9 : decode cX4_forget 9 = .ok (.aload_n 0, 1) := by decide +kernel
theorem dX4_forget_10 : decode cX4_forget 10 = .ok (.getfield 19, 3) := by decide +kernel
theorem dX4_forget_13 : decode cX4_forget 13 = .ok (.invokevirtual 163, 3) := by decide +kernel
theorem dX4_forget_16 : decode cX4_forget 16 = .ok (.aload_n 0, 1) := by decide +kernel
theorem dX4_forget_17 : decode cX4_forget 17 = .ok (.getfield 19, 3) := by decide +kernel
theorem dX4_forget_20 : decode cX4_forget 20 = .ok (.iload_n 1, 1) := by decide +kernel
theorem dX4_forget_21 : decode cX4_forget 21 = .ok (.invokevirtual 187, 3) := by decide +kernel
theorem dX4_forget_24 : decode cX4_forget 24 = .ok (.aload_n 0, 1) := by decide +kernel
theorem dX4_forget_25 : decode cX4_forget 25 = .ok (.getfield 19, 3) := by decide +kernel
theorem dX4_forget_28 : decode cX4_forget 28 = .ok (.getfield 107, 3) := by decide +kernel
theorem dX4_forget_31 : decode cX4_forget 31 = .ok (.ireturn, 1) := by decide +kernel
set_option maxRecDepth 20000 in
theorem ggX4_resize_X2_remember : GoodIn wsX4_resize wsX2_remember := goodIn_r _ [9, 10, 11, 12, 13, 14, 15, 16, 17, 18, 19, 20, 21, 22, 23, 24, 25, 26, 27, 28, 29, 30, 31, 32, 33, 34, 35, 36, 37, 38, 39, 65, 66, 67, 68, 69, 70, 71, 72, 73, 74, 75, 76, 77] (by decide +kernel) (by decide +kernel)
set_option maxRecDepth 20000 in
theorem gX4_resize_X2_remember : GoodIn wsX4_resize (wsV RX4 163 RX2 yX2_remember wsX2_remember) := goodIn_app (goodIn_of _ (by decide +kernel)) ggX4_resize_X2_remember
set_option maxRecDepth 20000 in
theorem ggX4_resize_X0_cutTo : GoodIn wsX4_resize wsX0_cutTo := goodIn_r _ [43, 31, 39, 44, 45, 46, 14, 47, 38, 35, 68, 69, 70, 71, 72, 73, 74, 75, 76, 77] (by decide +kernel) (by decide +kernel)
set_option maxRecDepth 20000 in
theorem gX4_resize_X0_cutTo : GoodIn wsX4_resize (wsV RX4 192 RX0 yX0_cutTo wsX0_cutTo) := goodIn_app (goodIn_of _ (by decide +kernel)) ggX4_resize_X0_cutTo
set_option maxRecDepth 20000 in
theorem ggX4_resize_X0_countKeys : GoodIn wsX4_resize wsX0_countKeys := goodIn_r _ [51, 39, 52, 53, 54, 55, 56, 57, 58, 68, 69, 70, 71, 72, 73, 74, 75, 76, 77] (by decide +kernel) (by decide +kernel)
set_option maxRecDepth 20000 in
theorem gX4_resize_X0_countKeys : GoodIn wsX4_resize (wsV RX4 95 RX0 yX0_countKeys wsX0_countKeys) := goodIn_app (goodIn_of _ (by decide +kernel)) ggX4_resize_X0_countKeys
theorem dX4_resize_0 : decode cX4_resize 0 = .ok (.iload_n 1, 1) := by decide +kernel
theorem dX4_resize_1 : decode cX4_resize 1 = .ok (.bipush 8, 2) := by decide +kernel
theorem dX4_resize_3 : decode cX4_resize 3 = .ok (.if_icmp .lt 9, 3) := by decide +kernel
theorem dX4_resize_6 : decode cX4_resize 6 = .ok (.iload_n 1, 1) := by decide +kernel
theorem dX4_resize_7 : decode cX4_resize 7 = .ok (.bipush 40, 2) := by decide +kernel
theorem dX4_resize_9 : decode cX4_resize 9 = .ok (.if_icmp .le 13, 3) := by decide +kernel
theorem dX4_resize_12 : decode cX4_resize 12 = .ok (.new 48, 3) := by decide +kernel
theorem dX4_resize_15 : decode cX4_resize 15 = .ok (.dup, 1) := by decide +kernel
theorem dX4_resize_16 : decode cX4_resize 16 = .ok (.ldc 190, 2) := by decide +kernel
theorem dX4_resize_18 : decode cX4_resize 18 = .ok (.invokespecial 52, 3) := by decide +kernel
theorem dX4_resize_21 : decode cX4_resize 21 = .ok (.athrow, 1) := by decide +kernel
theorem dX4_resize_22 : decode cX4_resize 22 = .ok (.aload_n 0, 1) := by decide +kernel
theorem dX4_resize_23 : decode cX4_resize 23 = .ok (.getfield 36, 3) := by decide +kernel
theorem dX4_resize_26 : decode cX4_resize 26 = .ok (.aload_n 0, 1) := by decide +kernel
theorem dX4_resize_27 : decode cX4_resize 27 = .ok (.getfield 19, 3) := by decide +kernel
theorem dX4_resize_30 : decode cX4_resize 30 = .ok (.invokevirtual 163, 3) := by decide +kernel
theorem dX4_resize_33 : decode cX4_resize 33 = .ok (.aload_n 0, 1) := by decide +kernel
theorem dX4_resize_34 : decode cX4_resize 34 = .ok (.getfield 19, 3) := by decide +kernel
theorem dX4_resize_37 : decode cX4_resize 37 = .ok (.iload_n 1, 1) := by decide +kernel
theorem dX4_resize_38 : decode cX4_resize 38 = .ok (.invokevirtual 192, 3) := by decide +kernel
theorem dX4_resize_41 : decode cX4_resize 41 = .ok (.aload_n 0, 1) := by decide +kernel
theorem dX4_resize_42 : decode cX4_resize 42 = .ok (.getfield 19, 3) := by decide +kernel
theorem dX4_resize_45 : decode cX4_resize 45 = .ok (.invokevirtual 95, 3) := by decide +kernel
theorem dX4_resize_48 : decode cX4_resize 48 = .ok (.ireturn, 1) := by decide +kernel
set_option maxRecDepth 20000 in
theorem ggX4_undo_X2_isEmpty : GoodIn wsX4_undo wsX2_isEmpty := goodIn_r _ [9, 10, 38, 39, 40] (by decide +kernel) (by decide +kernel)
set_option maxRecDepth 20000 in
theorem gX4_undo_X2_isEmpty : GoodIn wsX4_undo (wsV RX4 195 RX2 yX2_isEmpty wsX2_isEmpty) := goodIn_app (goodIn_of _ (by decide +kernel)) ggX4_undo_X2_isEmpty
set_option maxRecDepth 20000 in
theorem ggX4_undo_X2_takeBack : GoodIn wsX4_undo wsX2_takeBack := goodIn_r _ [14, 15, 16, 10, 17, 18, 19, 20, 21, 22, 23, 24, 25, 26, 27, 28, 29, 30, 31, 38, 39, 40, 41, 42, 43, 44, 45, 46, 47, 48, 49, 50] (by decide +kernel) (by decide +kernel)
set_option maxRecDepth 20000 in
theorem gX4_undo_X2_takeBack : GoodIn wsX4_undo (wsV RX4 200 RX2 yX2_takeBack wsX2_takeBack) := goodIn_app (goodIn_of _ (by decide +kernel)) ggX4_undo_X2_takeBack
theorem dX4_undo_0 : decode cX4_undo 0 = .ok (.aload_n 0, 1) := by decide +kernel
theorem dX4_undo_1 : decode cX4_undo 1 = .ok (.getfield 36, 3) := by decide +kernel
theorem dX4_undo_4 : decode cX4_undo 4 = .ok (.invokevirtual 195, 3) := by decide +kernel
theorem dX4_undo_7 : decode cX4_undo 7 = .ok (.ifCond .eq 13, 3) := by decide +kernel
theorem dX4_undo_10 : decode cX4_undo 10 = .ok (.new 59, 3) := by decide +kernel
theorem dX4_undo_13 : decode cX4_undo 13 = .ok (.dup, 1) := by decide +kernel
theorem dX4_undo_14 : decode cX4_undo 14 = .ok (.ldc 198, 2) := by decide +kernel
theorem dX4_undo_16 : decode cX4_undo 16 = .ok (.invokespecial 63, 3) := by decide +kernel
theorem dX4_undo_19 : decode cX4_undo 19 = .ok (.athrow, 1) := by decide +kernel
theorem dX4_undo_20 : decode cX4_undo 20 = .ok (.aload_n 0, 1) := by decide +kernel
theorem dX4_undo_21 : decode cX4_undo 21 = .ok (.getfield 36, 3) := by decide +kernel
theorem dX4_undo_24 : decode cX4_undo 24 = .ok (.aload_n 0, 1) := by decide +kernel
theorem dX4_undo_25 : decode cX4_undo 25 = .ok (.getfield 19, 3) := by decide +kernel
theorem dX4_undo_28 : decode cX4_undo 28 = .ok (.invokevirtual 200, 3) := by decide +kernel
theorem dX4_undo_31 : decode cX4_undo 31 = .ok (.ireturn, 1) := by decide +kernel
set_option maxRecDepth 20000 in
theorem ggX4_costs_X4_checkRange : GoodIn wsX4_costs wsX4_checkRange := goodIn_ca (goodIn_ca (goodIn_r _ [6, 7, 8, 9, 10, 11, 5, 12, 13, 14, 1, 15, 16, 17, 18, 19, 20, 45, 46, 47, 48, 49, 50, 51, 52, 53, 54, 55, 56, 57, 58, 59, 60] (by decide +kernel) (by decide +kernel)) (goodIn_sub (fun _ h => List.mem_cons_of_mem _ (List.mem_append_left _ (List.mem_append_right _ h))) (by decide +kernel))) (goodIn_sub (fun _ h => List.mem_cons_of_mem _ (List.mem_append_right _ h)) (by decide +kernel))
set_option maxRecDepth 20000 in
theorem gX4_costs_X4_checkRange : GoodIn wsX4_costs (wsV RX4 144 RX4 yX4_checkRange wsX4_checkRange) := goodIn_app (goodIn_of _ (by decide +kernel)) ggX4_costs_X4_checkRange
set_option maxRecDepth 20000 in
theorem ggX4_costs_X0_isNarrow : GoodIn wsX4_costs wsX0_isNarrow := goodIn_r _ [24, 25, 51, 52, 53, 54, 55, 56, 57, 58, 59, 60] (by decide +kernel) (by decide +kernel)
set_option maxRecDepth 20000 in
theorem gX4_costs_X0_isNarrow : GoodIn wsX4_costs (wsV RX4 179 RX0 yX0_isNarrow wsX0_isNarrow) := goodIn_app (goodIn_of _ (by decide +kernel)) ggX4_costs_X0_isNarrow
set_option maxRecDepth 20000 in
theorem ggX4_costs_X0_price : GoodIn wsX4_costs wsX0_price := goodIn_r _ [29, 30, 31, 32, 18, 33, 34, 35, 36, 37, 38, 39, 40, 41, 42, 43, 44, 51, 52, 53, 54, 55, 56, 57, 58, 59, 60] (by decide +kernel) (by decide +kernel)
set_option maxRecDepth 20000 in
theorem gX4_costs_X0_price : GoodIn wsX4_costs (wsV RX4 204 RX0 yX0_price wsX0_price) := goodIn_app (goodIn_of _ (by decide +kernel)) ggX4_costs_X0_price
theorem dX4_costs_0 : decode cX4_costs 0 = .ok (.aload_n 0, 1) := by decide +kernel
theorem dX4_costs_1 : decode cX4_costs 1 = .ok (.iload_n 1, 1) := by decide +kernel
theorem dX4_costs_2 : decode cX4_costs 2 = .ok (.iload_n 2, 1) := by decide +kernel
theorem dX4_costs_3 : decode cX4_costs 3 = .ok (.invokevirtual 144, 3) := by decide +kernel
theorem dX4_costs_6 : decode cX4_costs 6 = .ok (.aload_n 0, 1) := by decide +kernel
theorem dX4_costs_7 : decode cX4_costs 7 = .ok (.getfield 19, 3) := by decide +kernel
theorem dX4_costs_10 : decode cX4_costs 10 = .ok (.iload_n 1, 1) := by decide +kernel
theorem dX4_costs_11 : decode cX4_costs 11 = .ok (.iload_n 2, 1) := by decide +kernel
theorem dX4_costs_12 : decode cX4_costs 12 = .ok (.invokevirtual 179, 3) := by decide +kernel
theorem dX4_costs_15 : decode cX4_costs 15 = .ok (.ifCond .eq 7, 3) := by decide +kernel
theorem dX4_costs_18 : decode cX4_costs 18 = .ok (.iconst (-1), 1) := by decide +kernel
theorem dX4_costs_19 : decode cX4_costs 19 = .ok (.goto 12, 3) := by decide +kernel
theorem dX4_costs_22 : decode cX4_costs 22 = .ok (.aload_n 0, 1) := by decide +kernel
theorem dX4_costs_23 : decode cX4_costs 23 = .ok (.getfield 19, 3) := by decide +kernel
theorem dX4_costs_26 : decode cX4_costs 26 = .ok (.iload_n 1, 1) := by decide +kernel
theorem dX4_costs_27 : decode cX4_costs 27 = .ok (.iload_n 2, 1) := by decide +kernel
theorem dX4_costs_28 : decode cX4_costs 28 = .ok (.invokevirtual 204, 3) := by decide +kernel
theorem dX4_costs_31 : decode cX4_costs 31 = .ok (.ireturn, 1) := by decide +kernel
set_option maxRecDepth 20000 in
theorem ggX4_bestQuestion_X1_learnFrom : GoodIn wsX4_bestQuestion wsX1_learnFrom := goodIn_r _ [9, 10, 11, 12, 13, 14, 15, 8, 16, 17, 18, 19, 20, 21, 22, 23, 24, 25, 26, 27, 28, 29, 30, 31, 32, 33, 34, 35, 36, 37, 38, 39, 40, 41, 42, 43, 44, 45, 46, 47, 48, 49, 50, 51, 52, 53, 82, 83, 84, 85, 86, 87, 88, 89, 90, 91, 92, 93] (by decide +kernel) (by decide +kernel)
set_option maxRecDepth 20000 in
theorem gX4_bestQuestion_X1_learnFrom : GoodIn wsX4_bestQuestion (wsV RX4 119 RX1 yX1_learnFrom wsX1_learnFrom) := goodIn_app (goodIn_of _ (by decide +kernel)) ggX4_bestQuestion_X1_learnFrom
set_option maxRecDepth 20000 in
theorem ggX4_bestQuestion_X1_greatestKeys : GoodIn wsX4_bestQuestion wsX1_greatestKeys := goodIn_r _ [57, 42, 43, 44, 8, 45, 25, 92, 93] (by decide +kernel) (by decide +kernel)
set_option maxRecDepth 20000 in
theorem gX4_bestQuestion_X1_greatestKeys : GoodIn wsX4_bestQuestion (wsV RX4 151 RX1 yX1_greatestKeys wsX1_greatestKeys) := goodIn_app (goodIn_of _ (by decide +kernel)) ggX4_bestQuestion_X1_greatestKeys
set_option maxRecDepth 20000 in
theorem ggX4_bestQuestion_X1_fewestKeys : GoodIn wsX4_bestQuestion wsX1_fewestKeys := goodIn_r _ [61, 42, 43, 44, 8, 45, 25, 92, 93] (by decide +kernel) (by decide +kernel)
set_option maxRecDepth 20000 in
theorem gX4_bestQuestion_X1_fewestKeys : GoodIn wsX4_bestQuestion (wsV RX4 148 RX1 yX1_fewestKeys wsX1_fewestKeys) := goodIn_app (goodIn_of _ (by decide +kernel)) ggX4_bestQuestion_X1_fewestKeys
set_option maxRecDepth 20000 in
theorem ggX4_bestQuestion_X0_price : GoodIn wsX4_bestQuestion wsX0_price := goodIn_r _ [65, 66, 67, 68, 29, 69, 70, 37, 27, 28, 30, 31, 71, 72, 73, 74, 75, 82, 83, 84, 85, 86, 87, 88, 89, 90, 91] (by decide +kernel) (by decide +kernel)
set_option maxRecDepth 20000 in
theorem gX4_bestQuestion_X0_price : GoodIn wsX4_bestQuestion (wsV RX4 204 RX0 yX0_price wsX0_price) := goodIn_app (goodIn_of _ (by decide +kernel)) ggX4_bestQuestion_X0_price
theorem dX4_bestQuestion_0 : decode cX4_bestQuestion 0 = .ok (.aload_n 0, 1) := by decide +kernel
theorem dX4_bestQuestion_1 : decode cX4_bestQuestion 1 = .ok (.getfield 29, 3) := by decide +kernel
theorem dX4_bestQuestion_4 : decode cX4_bestQuestion 4 = .ok (.aload_n 0, 1) := by decide +kernel
theorem dX4_bestQuestion_5 : decode cX4_bestQuestion 5 = .ok (.getfield 19, 3) := by decide +kernel
theorem dX4_bestQuestion_8 : decode cX4_bestQuestion 8 = .ok (.iconst (-1), 1) := by decide +kernel
theorem dX4_bestQuestion_9 : decode cX4_bestQuestion 9 = .ok (.invokevirtual 119, 3) := by decide +kernel
theorem dX4_bestQuestion_12 : decode cX4_bestQuestion 12 = .ok (.iconst (-1), 1) := by decide +kernel
theorem dX4_bestQuestion_13 : decode cX4_bestQuestion 13 = .ok (.istore_n 1, 1) := by decide +kernel
theorem dX4_bestQuestion_14 : decode cX4_bestQuestion 14 = .ok (.iconst 0, 1) := by decide +kernel
theorem dX4_bestQuestion_15 : decode cX4_bestQuestion 15 = .ok (.istore_n 2, 1) := by decide +kernel
theorem dX4_bestQuestion_16 : decode cX4_bestQuestion 16 = .ok (.iconst 0, 1) := by decide +kernel
theorem dX4_bestQuestion_17 : decode cX4_bestQuestion 17 = .ok (.istore_n 3, 1) := by decide +kernel
theorem dX4_bestQuestion_18 : decode cX4_bestQuestion 18 = .ok (.iconst 0, 1) := by decide +kernel
theorem dX4_bestQuestion_19 : decode cX4_bestQuestion 19 = .ok (.istore 4, 2) := by decide +kernel
theorem dX4_bestQuestion_21 : decode cX4_bestQuestion 21 = .ok (.iload 4, 2) := by decide +kernel
theorem dX4_bestQuestion_23 : decode cX4_bestQuestion 23 = .ok (.aload_n 0, 1) := by decide +kernel
theorem dX4_bestQuestion_24 : decode cX4_bestQuestion 24 = .ok (.getfield 19, 3) := by decide +kernel
theorem dX4_bestQuestion_27 : decode cX4_bestQuestion 27 = .ok (.getfield 91, 3) := by decide +kernel
theorem dX4_bestQuestion_30 : decode cX4_bestQuestion 30 = .ok (.if_icmp .ge 122, 3) := by decide +kernel
theorem dX4_bestQuestion_33 : decode cX4_bestQuestion 33 = .ok (.iload 4, 2) := by decide +kernel
theorem dX4_bestQuestion_35 : decode cX4_bestQuestion 35 = .ok (.aload_n 0, 1) := by decide +kernel
theorem dX4_bestQuestion_36 : decode cX4_bestQuestion 36 = .ok (.getfield 19, 3) := by decide +kernel
theorem dX4_bestQuestion_39 : decode cX4_bestQuestion 39 = .ok (.getfield 98, 3) := by decide +kernel
theorem dX4_bestQuestion_42 : decode cX4_bestQuestion 42 = .ok (.iadd, 1) := by decide +kernel
theorem dX4_bestQuestion_43 : decode cX4_bestQuestion 43 = .ok (.iconst 1, 1) := by decide +kernel
theorem dX4_bestQuestion_44 : decode cX4_bestQuestion 44 = .ok (.isub, 1) := by decide +kernel
theorem dX4_bestQuestion_45 : decode cX4_bestQuestion 45 = .ok (.istore 5, 2) := by decide +kernel
theorem dX4_bestQuestion_47 : decode cX4_bestQuestion 47 = .ok (.iload 5, 2) := by decide +kernel
theorem dX4_bestQuestion_49 : decode cX4_bestQuestion 49 = .ok (.aload_n 0, 1) := by decide +kernel
theorem dX4_bestQuestion_50 : decode cX4_bestQuestion 50 = .ok (.getfield 19, 3) := by decide +kernel
theorem dX4_bestQuestion_53 : decode cX4_bestQuestion 53 = .ok (.getfield 91, 3) := by decide +kernel
theorem dX4_bestQuestion_56 : decode cX4_bestQuestion 56 = .ok (.if_icmp .ge 90, 3) := by decide +kernel
theorem dX4_bestQuestion_59 : decode cX4_bestQuestion 59 = .ok (.aload_n 0, 1) := by decide +kernel
theorem dX4_bestQuestion_60 : decode cX4_bestQuestion 60 = .ok (.getfield 29, 3) := by decide +kernel
theorem dX4_bestQuestion_63 : decode cX4_bestQuestion 63 = .ok (.iload 4, 2) := by decide +kernel
theorem dX4_bestQuestion_65 : decode cX4_bestQuestion 65 = .ok (.iload 5, 2) := by decide +kernel
theorem dX4_bestQuestion_67 : decode cX4_bestQuestion 67 = .ok (.invokevirtual 151, 3) := by decide +kernel
theorem dX4_bestQuestion_70 : decode cX4_bestQuestion 70 = .ok (.aload_n 0, 1) := by decide +kernel
theorem dX4_bestQuestion_71 : decode cX4_bestQuestion 71 = .ok (.getfield 29, 3) := by decide +kernel
theorem dX4_bestQuestion_74 : decode cX4_bestQuestion 74 = .ok (.iload 4, 2) := by decide +kernel
theorem dX4_bestQuestion_76 : decode cX4_bestQuestion 76 = .ok (.iload 5, 2) := by decide +kernel
theorem dX4_bestQuestion_78 : decode cX4_bestQuestion 78 = .ok (.invokevirtual 148, 3) := by decide +kernel
theorem dX4_bestQuestion_81 : decode cX4_bestQuestion 81 = .ok (.isub, 1) := by decide +kernel
theorem dX4_bestQuestion_82 : decode cX4_bestQuestion 82 = .ok (.istore 6, 2) := by decide +kernel
theorem dX4_bestQuestion_84 : decode cX4_bestQuestion 84 = .ok (.iload 6, 2) := by decide +kernel
theorem dX4_bestQuestion_86 : decode cX4_bestQuestion 86 = .ok (.iload_n 2, 1) := by decide +kernel
theorem dX4_bestQuestion_87 : decode cX4_bestQuestion 87 = .ok (.if_icmp .gt 29, 3) := by decide +kernel
theorem dX4_bestQuestion_90 : decode cX4_bestQuestion 90 = .ok (.iload 6, 2) := by decide +kernel
theorem dX4_bestQuestion_92 : decode cX4_bestQuestion 92 = .ok (.iload_n 2, 1) := by decide +kernel
theorem dX4_bestQuestion_93 : decode cX4_bestQuestion 93 = .ok (.if_icmp .ne 47, 3) := by decide +kernel
theorem dX4_bestQuestion_96 : decode cX4_bestQuestion 96 = .ok (.iload 6, 2) := by decide +kernel
theorem dX4_bestQuestion_98 : decode cX4_bestQuestion 98 = .ok (.ifCond .le 42, 3) := by decide +kernel
theorem dX4_bestQuestion_101 : decode cX4_bestQuestion 101 = .ok (.aload_n 0, 1) := by decide +kernel
theorem dX4_bestQuestion_102 : decode cX4_bestQuestion 102 = .ok (.getfield 19, 3) := by decide +kernel
theorem dX4_bestQuestion_105 : decode cX4_bestQuestion 105 = .ok (.iload 4, 2) := by decide +kernel
theorem dX4_bestQuestion_107 : decode cX4_bestQuestion 107 = .ok (.iload 5, 2) := by decide +kernel
theorem dX4_bestQuestion_109 : decode cX4_bestQuestion 109 = .ok (.invokevirtual 204, 3) := by decide +kernel
theorem dX4_bestQuestion_112 : decode cX4_bestQuestion 112 = .ok (.iload_n 3, 1) := by decide +kernel
theorem dX4_bestQuestion_113 : decode cX4_bestQuestion 113 = .ok (.if_icmp .ge 27, 3) := by decide +kernel
theorem dX4_bestQuestion_116 : decode cX4_bestQuestion 116 = .ok (.bipush 100, 2) := by decide +kernel
theorem dX4_bestQuestion_118 : decode cX4_bestQuestion 118 = .ok (.iload 4, 2) := by decide +kernel
theorem dX4_bestQuestion_120 : decode cX4_bestQuestion 120 = .ok (.imul, 1) := by decide +kernel
theorem dX4_bestQuestion_121 : decode cX4_bestQuestion 121 = .ok (.iload 5, 2) := by decide +kernel
theorem dX4_bestQuestion_123 : decode cX4_bestQuestion 123 = .ok (.iadd, 1) := by decide +kernel
theorem dX4_bestQuestion_124 : decode cX4_bestQuestion 124 = .ok (.istore_n 1, 1) := by decide +kernel
theorem dX4_bestQuestion_125 : decode cX4_bestQuestion 125 = .ok (.iload 6, 2) := by decide +kernel
theorem dX4_bestQuestion_127 : decode cX4_bestQuestion 127 = .ok (.istore_n 2, 1) := by decide +kernel
theorem dX4_bestQuestion_128 : decode cX4_bestQuestion 128 = .ok (.aload_n 0, 1) := by decide +kernel
theorem dX4_bestQuestion_129 : decode cX4_bestQuestion 129 = .ok (.getfield 19, 3) := by decide +kernel
theorem dX4_bestQuestion_132 : decode cX4_bestQuestion 132 = .ok (.iload 4, 2) := by decide +kernel
theorem dX4_bestQuestion_134 : decode cX4_bestQuestion 134 = .ok (.iload 5, 2) := by decide +kernel
theorem dX4_bestQuestion_136 : decode cX4_bestQuestion 136 = .ok (.invokevirtual 204, 3) := by decide +kernel
theorem dX4_bestQuestion_139 : decode cX4_bestQuestion 139 = .ok (.istore_n 3, 1) := by decide +kernel
theorem dX4_bestQuestion_140 : decode cX4_bestQuestion 140 = .ok (.iinc 5 1, 3) := by decide +kernel
theorem dX4_bestQuestion_143 : decode cX4_bestQuestion 143 = .ok (.goto (-96), 3) := by decide +kernel
theorem dX4_bestQuestion_146 : decode cX4_bestQuestion 146 = .ok (.iinc 4 1, 3) := by decide +kernel
theorem dX4_bestQuestion_149 : decode cX4_bestQuestion 149 = .ok (.goto (-128), 3) := by decide +kernel
theorem dX4_bestQuestion_152 : decode cX4_bestQuestion 152 = .ok (.iload_n 1, 1) := by decide +kernel
theorem dX4_bestQuestion_153 : decode cX4_bestQuestion 153 = .ok (.ireturn, 1) := by decide +kernel
set_option maxRecDepth 20000 in
theorem ggX4_worst_X4_checkRange : GoodIn wsX4_worst wsX4_checkRange := goodIn_ca (goodIn_ca (goodIn_r _ [16, 17, 18, 19, 20, 21, 15, 22, 23, 24, 1, 25, 26, 27, 28, 29, 30, 98, 99, 100, 101, 102, 103, 104, 105, 106, 107, 108, 109, 110, 111, 112, 113] (by decide +kernel) (by decide +kernel)) (goodIn_sub (fun _ h => List.mem_cons_of_mem _ (List.mem_append_left _ (List.mem_append_right _ h))) (by decide +kernel))) (goodIn_sub (fun _ h => List.mem_cons_of_mem _ (List.mem_append_right _ h)) (by decide +kernel))
set_option maxRecDepth 20000 in
theorem gX4_worst_X4_checkRange : GoodIn wsX4_worst (wsV RX4 144 RX4 yX4_checkRange wsX4_checkRange) := goodIn_app (goodIn_of _ (by decide +kernel)) ggX4_worst_X4_checkRange
set_option maxRecDepth 20000 in
theorem ggX4_worst_X0_isNarrow : GoodIn wsX4_worst wsX0_isNarrow := goodIn_r _ [34, 35, 104, 105, 106, 107, 108, 109, 110, 111, 112, 113] (by decide +kernel) (by decide +kernel)
set_option maxRecDepth 20000 in
theorem gX4_worst_X0_isNarrow : GoodIn wsX4_worst (wsV RX4 179 RX0 yX0_isNarrow wsX0_isNarrow) := goodIn_app (goodIn_of _ (by decide +kernel)) ggX4_worst_X0_isNarrow
set_option maxRecDepth 20000 in
theorem ggX4_worst_X1_learnFrom : GoodIn wsX4_worst wsX1_learnFrom := goodIn_r _ [40, 41, 42, 43, 44, 45, 46, 39, 47, 48, 6, 7, 8, 49, 50, 51, 52, 53, 54, 55, 56, 28, 57, 58, 59, 60, 61, 62, 63, 64, 65, 66, 67, 68, 69, 70, 71, 72, 73, 74, 75, 76, 77, 78, 79, 80, 104, 105, 106, 107, 108, 109, 110, 111, 112, 113, 114, 115] (by decide +kernel) (by decide +kernel)
set_option maxRecDepth 20000 in
theorem gX4_worst_X1_learnFrom : GoodIn wsX4_worst (wsV RX4 119 RX1 yX1_learnFrom wsX1_learnFrom) := goodIn_app (goodIn_of _ (by decide +kernel)) ggX4_worst_X1_learnFrom
set_option maxRecDepth 20000 in
theorem ggX4_worst_X1_fewestKeys : GoodIn wsX4_worst wsX1_fewestKeys := goodIn_r _ [84, 69, 70, 71, 39, 72, 53, 114, 115] (by decide +kernel) (by decide +kernel)
set_option maxRecDepth 20000 in
theorem gX4_worst_X1_fewestKeys : GoodIn wsX4_worst (wsV RX4 148 RX1 yX1_fewestKeys wsX1_fewestKeys) := goodIn_app (goodIn_of _ (by decide +kernel)) ggX4_worst_X1_fewestKeys
set_option maxRecDepth 20000 in
theorem ggX4_worst_X1_greatestKeys : GoodIn wsX4_worst wsX1_greatestKeys := goodIn_r _ [88, 69, 70, 71, 39, 72, 53, 114, 115] (by decide +kernel) (by decide +kernel)
set_option maxRecDepth 20000 in
theorem gX4_worst_X1_greatestKeys : GoodIn wsX4_worst (wsV RX4 151 RX1 yX1_greatestKeys wsX1_greatestKeys) := goodIn_app (goodIn_of _ (by decide +kernel)) ggX4_worst_X1_greatestKeys
set_option maxRecDepth 20000 in
theorem ggX4_worst_X1_countSureBehind : GoodIn wsX4_worst wsX1_countSureBehind := goodIn_r _ [92, 42, 93, 94, 95, 39, 96, 97, 10, 7, 11, 69, 70, 71, 72, 53, 114, 115] (by decide +kernel) (by decide +kernel)
set_option maxRecDepth 20000 in
theorem gX4_worst_X1_countSureBehind : GoodIn wsX4_worst (wsV RX4 207 RX1 yX1_countSureBehind wsX1_countSureBehind) := goodIn_app (goodIn_of _ (by decide +kernel)) ggX4_worst_X1_countSureBehind
theorem dX4_worst_0 : decode cX4_worst 0 = .ok (.aload_n 0, 1) := by decide +kernel
theorem dX4_worst_1 : decode cX4_worst 1 = .ok (.iload_n 1, 1) := by decide +kernel
theorem dX4_worst_2 : decode cX4_worst 2 = .ok (.iload_n 2, 1) := by decide +kernel
theorem dX4_worst_3 : decode cX4_worst 3 = .ok (.invokevirtual 144, 3) := by decide +kernel
theorem dX4_worst_6 : decode cX4_worst 6 = .ok (.aload_n 0, 1) := by decide +kernel
theorem dX4_worst_7 : decode cX4_worst 7 = .ok (.getfield 19, 3) := by decide +kernel
theorem dX4_worst_10 : decode cX4_worst 10 = .ok (.iload_n 1, 1) := by decide +kernel
theorem dX4_worst_11 : decode cX4_worst 11 = .ok (.iload_n 2, 1) := by decide +kernel
theorem dX4_worst_12 : decode cX4_worst 12 = .ok (.invokevirtual 179, 3) := by decide +kernel
theorem dX4_worst_15 : decode cX4_worst 15 = .ok (.ifCond .eq 5, 3) := by decide +kernel
theorem dX4_worst_18 : decode cX4_worst 18 = .ok (.iconst (-1), 1) := by decide +kernel
theorem dX4_worst_19 : decode cX4_worst 19 = .ok (.ireturn, 1) := by decide +kernel
theorem dX4_worst_20 : decode cX4_worst 20 = .ok (.aload_n 0, 1) := by decide +kernel
theorem dX4_worst_21 : decode cX4_worst 21 = .ok (.getfield 29, 3) := by decide +kernel
theorem dX4_worst_24 : decode cX4_worst 24 = .ok (.aload_n 0, 1) := by decide +kernel
theorem dX4_worst_25 : decode cX4_worst 25 = .ok (.getfield 19, 3) := by decide +kernel
theorem dX4_worst_28 : decode cX4_worst 28 = .ok (.iconst (-1), 1) := by decide +kernel
theorem dX4_worst_29 : decode cX4_worst 29 = .ok (.invokevirtual 119, 3) := by decide +kernel
theorem dX4_worst_32 : decode cX4_worst 32 = .ok (.aload_n 0, 1) := by decide +kernel
theorem dX4_worst_33 : decode cX4_worst 33 = .ok (.getfield 29, 3) := by decide +kernel
theorem dX4_worst_36 : decode cX4_worst 36 = .ok (.iload_n 1, 1) := by decide +kernel
theorem dX4_worst_37 : decode cX4_worst 37 = .ok (.iload_n 2, 1) := by decide +kernel
theorem dX4_worst_38 : decode cX4_worst 38 = .ok (.invokevirtual 148, 3) := by decide +kernel
theorem dX4_worst_41 : decode cX4_worst 41 = .ok (.istore_n 3, 1) := by decide +kernel
theorem dX4_worst_42 : decode cX4_worst 42 = .ok (.aload_n 0, 1) := by decide +kernel
theorem dX4_worst_43 : decode cX4_worst 43 = .ok (.getfield 29, 3) := by decide +kernel
theorem dX4_worst_46 : decode cX4_worst 46 = .ok (.iload_n 1, 1) := by decide +kernel
theorem dX4_worst_47 : decode cX4_worst 47 = .ok (.iload_n 2, 1) := by decide +kernel
theorem dX4_worst_48 : decode cX4_worst 48 = .ok (.invokevirtual 151, 3) := by decide +kernel
theorem dX4_worst_51 : decode cX4_worst 51 = .ok (.istore 4, 2) := by decide +kernel
theorem dX4_worst_53 : decode cX4_worst 53 = .ok (.aload_n 0, 1) := by decide +kernel
theorem dX4_worst_54 : decode cX4_worst 54 = .ok (.getfield 19, 3) := by decide +kernel
theorem dX4_worst_57 : decode cX4_worst 57 = .ok (.getfield 91, 3) := by decide +kernel
theorem dX4_worst_60 : decode cX4_worst 60 = .ok (.istore 5, 2) := by decide +kernel
theorem dX4_worst_62 : decode cX4_worst 62 = .ok (.iload_n 3, 1) := by decide +kernel
theorem dX4_worst_63 : decode cX4_worst 63 = .ok (.aload_n 0, 1) := by decide +kernel
theorem dX4_worst_64 : decode cX4_worst 64 = .ok (.getfield 19, 3) := by decide +kernel
theorem dX4_worst_67 : decode cX4_worst 67 = .ok (.getfield 101, 3) := by decide +kernel
theorem dX4_worst_70 : decode cX4_worst 70 = .ok (.if_icmp .ge 24, 3) := by decide +kernel
theorem dX4_worst_73 : decode cX4_worst 73 = .ok (.aload_n 0, 1) := by decide +kernel
theorem dX4_worst_74 : decode cX4_worst 74 = .ok (.getfield 29, 3) := by decide +kernel
theorem dX4_worst_77 : decode cX4_worst 77 = .ok (.iload_n 1, 1) := by decide +kernel
theorem dX4_worst_78 : decode cX4_worst 78 = .ok (.iload_n 2, 1) := by decide +kernel
theorem dX4_worst_79 : decode cX4_worst 79 = .ok (.iconst 0, 1) := by decide +kernel
theorem dX4_worst_80 : decode cX4_worst 80 = .ok (.aload_n 0, 1) := by decide +kernel
theorem dX4_worst_81 : decode cX4_worst 81 = .ok (.getfield 19, 3) := by decide +kernel
theorem dX4_worst_84 : decode cX4_worst 84 = .ok (.getfield 101, 3) := by decide +kernel
theorem dX4_worst_87 : decode cX4_worst 87 = .ok (.iconst 1, 1) := by decide +kernel
theorem dX4_worst_88 : decode cX4_worst 88 = .ok (.isub, 1) := by decide +kernel
theorem dX4_worst_89 : decode cX4_worst 89 = .ok (.invokevirtual 207, 3) := by decide +kernel
theorem dX4_worst_92 : decode cX4_worst 92 = .ok (.istore 5, 2) := by decide +kernel
theorem dX4_worst_94 : decode cX4_worst 94 = .ok (.iload_n 3, 1) := by decide +kernel
theorem dX4_worst_95 : decode cX4_worst 95 = .ok (.aload_n 0, 1) := by decide +kernel
theorem dX4_worst_96 : decode cX4_worst 96 = .ok (.getfield 19, 3) := by decide +kernel
theorem dX4_worst_99 : decode cX4_worst 99 = .ok (.getfield 101, 3) := by decide +kernel
theorem dX4_worst_102 : decode cX4_worst 102 = .ok (.invokestatic 211, 3) := by decide +kernel
theorem dX4_worst_105 : decode cX4_worst 105 = .ok (.istore 6, 2) := by decide +kernel
theorem dX4_worst_107 : decode cX4_worst 107 = .ok (.iload 6, 2) := by decide +kernel
theorem dX4_worst_109 : decode cX4_worst 109 = .ok (.iload 4, 2) := by decide +kernel
theorem dX4_worst_111 : decode cX4_worst 111 = .ok (.if_icmp .gt 29, 3) := by decide +kernel
theorem dX4_worst_114 : decode cX4_worst 114 = .ok (.iload 5, 2) := by decide +kernel
theorem dX4_worst_116 : decode cX4_worst 116 = .ok (.aload_n 0, 1) := by decide +kernel
theorem dX4_worst_117 : decode cX4_worst 117 = .ok (.getfield 29, 3) := by decide +kernel
theorem dX4_worst_120 : decode cX4_worst 120 = .ok (.iload_n 1, 1) := by decide +kernel
theorem dX4_worst_121 : decode cX4_worst 121 = .ok (.iload_n 2, 1) := by decide +kernel
theorem dX4_worst_122 : decode cX4_worst 122 = .ok (.iload 6, 2) := by decide +kernel
theorem dX4_worst_124 : decode cX4_worst 124 = .ok (.iload 6, 2) := by decide +kernel
theorem dX4_worst_126 : decode cX4_worst 126 = .ok (.invokevirtual 207, 3) := by decide +kernel
theorem dX4_worst_129 : decode cX4_worst 129 = .ok (.invokestatic 216, 3) := by decide +kernel
theorem dX4_worst_132 : decode cX4_worst 132 = .ok (.istore 5, 2) := by decide +kernel
theorem dX4_worst_134 : decode cX4_worst 134 = .ok (.iinc 6 1, 3) := by decide +kernel
theorem dX4_worst_137 : decode cX4_worst 137 = .ok (.goto (-30), 3) := by decide +kernel
theorem dX4_worst_140 : decode cX4_worst 140 = .ok (.iload 5, 2) := by decide +kernel
theorem dX4_worst_142 : decode cX4_worst 142 = .ok (.ireturn, 1) := by decide +kernel
set_option maxRecDepth 20000 in
theorem ggX4_leastWorth_X1_learnFrom : GoodIn wsX4_leastWorth wsX1_learnFrom := goodIn_r _ [8, 9, 10, 11, 12, 13, 14, 7, 15, 16, 17, 18, 19, 20, 21, 22, 23, 24, 25, 26, 27, 28, 29, 30, 31, 32, 33, 34, 35, 36, 37, 38, 39, 40, 41, 42, 43, 44, 45, 46, 47, 48, 49, 50, 51, 52, 75, 76, 77, 78, 79, 80, 81, 82, 83, 84, 85, 86] (by decide +kernel) (by decide +kernel)
set_option maxRecDepth 20000 in
theorem gX4_leastWorth_X1_learnFrom : GoodIn wsX4_leastWorth (wsV RX4 119 RX1 yX1_learnFrom wsX1_learnFrom) := goodIn_app (goodIn_of _ (by decide +kernel)) ggX4_leastWorth_X1_learnFrom
set_option maxRecDepth 20000 in
theorem ggX4_leastWorth_X1_countSure : GoodIn wsX4_leastWorth wsX1_countSure := goodIn_r _ [56, 10, 57, 58, 59, 7, 60, 61, 62, 63, 64, 41, 42, 43, 44, 24, 65, 66, 67, 68, 85, 86] (by decide +kernel) (by decide +kernel)
set_option maxRecDepth 20000 in
theorem gX4_leastWorth_X1_countSure : GoodIn wsX4_leastWorth (wsV RX4 123 RX1 yX1_countSure wsX1_countSure) := goodIn_app (goodIn_of _ (by decide +kernel)) ggX4_leastWorth_X1_countSure
theorem dX4_leastWorth_0 : decode cX4_leastWorth 0 = .ok (.iconst (-1), 1) := by decide +kernel
theorem dX4_leastWorth_1 : decode cX4_leastWorth 1 = .ok (.istore_n 1, 1) := by decide +kernel
theorem dX4_leastWorth_2 : decode cX4_leastWorth 2 = .ok (.iconst (-1), 1) := by decide +kernel
theorem dX4_leastWorth_3 : decode cX4_leastWorth 3 = .ok (.istore_n 2, 1) := by decide +kernel
theorem dX4_leastWorth_4 : decode cX4_leastWorth 4 = .ok (.iconst 0, 1) := by decide +kernel
theorem dX4_leastWorth_5 : decode cX4_leastWorth 5 = .ok (.istore_n 3, 1) := by decide +kernel
theorem dX4_leastWorth_6 : decode cX4_leastWorth 6 = .ok (.iload_n 3, 1) := by decide +kernel
theorem dX4_leastWorth_7 : decode cX4_leastWorth 7 = .ok (.aload_n 0, 1) := by decide +kernel
theorem dX4_leastWorth_8 : decode cX4_leastWorth 8 = .ok (.getfield 19, 3) := by decide +kernel
theorem dX4_leastWorth_11 : decode cX4_leastWorth 11 = .ok (.getfield 107, 3) := by decide +kernel
theorem dX4_leastWorth_14 : decode cX4_leastWorth 14 = .ok (.if_icmp .ge 41, 3) := by decide +kernel
theorem dX4_leastWorth_17 : decode cX4_leastWorth 17 = .ok (.aload_n 0, 1) := by decide +kernel
theorem dX4_leastWorth_18 : decode cX4_leastWorth 18 = .ok (.getfield 29, 3) := by decide +kernel
theorem dX4_leastWorth_21 : decode cX4_leastWorth 21 = .ok (.aload_n 0, 1) := by decide +kernel
theorem dX4_leastWorth_22 : decode cX4_leastWorth 22 = .ok (.getfield 19, 3) := by decide +kernel
theorem dX4_leastWorth_25 : decode cX4_leastWorth 25 = .ok (.iload_n 3, 1) := by decide +kernel
theorem dX4_leastWorth_26 : decode cX4_leastWorth 26 = .ok (.invokevirtual 119, 3) := by decide +kernel
theorem dX4_leastWorth_29 : decode cX4_leastWorth 29 = .ok (.aload_n 0, 1) := by decide +kernel
theorem dX4_leastWorth_30 : decode cX4_leastWorth 30 = .ok (.getfield 29, 3) := by decide +kernel
theorem dX4_leastWorth_33 : decode cX4_leastWorth 33 = .ok (.invokevirtual 123, 3) := by decide +kernel
theorem dX4_leastWorth_36 : decode cX4_leastWorth 36 = .ok (.istore 4, 2) := by decide +kernel
theorem dX4_leastWorth_38 : decode cX4_leastWorth 38 = .ok (.iload 4, 2) := by decide +kernel
theorem dX4_leastWorth_40 : decode cX4_leastWorth 40 = .ok (.iload_n 2, 1) := by decide +kernel
theorem dX4_leastWorth_41 : decode cX4_leastWorth 41 = .ok (.if_icmp .le 8, 3) := by decide +kernel
theorem dX4_leastWorth_44 : decode cX4_leastWorth 44 = .ok (.iload 4, 2) := by decide +kernel
theorem dX4_leastWorth_46 : decode cX4_leastWorth 46 = .ok (.istore_n 2, 1) := by decide +kernel
theorem dX4_leastWorth_47 : decode cX4_leastWorth 47 = .ok (.iload_n 3, 1) := by decide +kernel
theorem dX4_leastWorth_48 : decode cX4_leastWorth 48 = .ok (.istore_n 1, 1) := by decide +kernel
theorem dX4_leastWorth_49 : decode cX4_leastWorth 49 = .ok (.iinc 3 1, 3) := by decide +kernel
theorem dX4_leastWorth_52 : decode cX4_leastWorth 52 = .ok (.goto (-46), 3) := by decide +kernel
theorem dX4_leastWorth_55 : decode cX4_leastWorth 55 = .ok (.iload_n 1, 1) := by decide +kernel
theorem dX4_leastWorth_56 : decode cX4_leastWorth 56 = .ok (.ireturn, 1) := by decide +kernel
set_option maxRecDepth 20000 in
theorem ggX4_runScript_X4_groupsAbove : GoodIn wsX4_runScript wsX4_groupsAbove := goodIn_r _ [9, 5] (by decide +kernel) (by decide +kernel)
set_option maxRecDepth 20000 in
theorem gX4_runScript_X4_groupsAbove : GoodIn wsX4_runScript (va_wsS RX4 221 yX4_groupsAbove wsX4_groupsAbove) := goodIn_app (goodIn_of _ (by decide +kernel)) ggX4_runScript_X4_groupsAbove
set_option maxRecDepth 20000 in
theorem ggX4_runScript_X0_takeFrom : GoodIn wsX4_runScript wsX0_takeFrom := goodIn_r _ [14, 15, 16, 17, 18, 19, 20, 21, 22, 23, 24, 197, 198, 199, 200, 201, 202, 203, 204, 205, 206] (by decide +kernel) (by decide +kernel)
set_option maxRecDepth 20000 in
theorem gX4_runScript_X0_takeFrom : GoodIn wsX4_runScript (wsV RX4 81 RX0 yX0_takeFrom wsX0_takeFrom) := goodIn_app (goodIn_of _ (by decide +kernel)) ggX4_runScript_X0_takeFrom
set_option maxRecDepth 20000 in
theorem ggX4_runScript_X4_succeeds : GoodIn wsX4_runScript wsX4_succeeds := goodIn_r _ [28, 3, 29, 30, 31, 32, 33, 8, 34, 35, 36, 37, 13, 38, 15, 39, 40, 41, 42, 16, 43, 44, 45, 46, 20, 21, 47, 48, 49, 50, 23, 17, 51, 52, 53, 54, 55, 56, 57, 58, 59, 60, 61, 19, 62, 63, 64, 65, 24, 66, 67, 68, 69, 18, 70, 71, 72, 73, 74, 75, 76, 77, 78, 79, 80, 81, 22, 82, 83, 84, 85, 86, 87, 88, 89, 90, 91, 92, 93, 94, 95, 96, 97, 98, 99, 100, 101, 102, 103, 104, 105, 106, 107, 108, 109, 110, 111, 112, 113, 114, 115, 116, 117, 118, 119, 120, 121, 122, 123, 124, 125, 126, 127, 128, 129, 130, 131, 132, 133, 134, 135, 136, 137, 138, 139, 140, 141, 142, 143, 144, 145, 146, 147, 148, 149, 150, 151, 152, 153, 154, 155, 156, 157, 158, 159, 160, 161, 162, 163, 164, 165, 166, 167, 168, 169, 170, 171, 172, 173, 174, 175, 176, 177, 178, 179, 180, 181, 182, 183, 184, 185, 186, 187, 188, 189, 190, 191, 192, 193, 194, 195, 196, 197, 198, 199, 200, 201, 202, 203, 204, 205, 206, 207, 208] (by decide +kernel) (by decide +kernel)
set_option maxRecDepth 20000 in
theorem gX4_runScript_X4_succeeds : GoodIn wsX4_runScript (wsV RX4 229 RX4 yX4_succeeds wsX4_succeeds) := goodIn_app (goodIn_of _ (by decide +kernel)) ggX4_runScript_X4_succeeds
theorem dX4_runScript_0 : decode cX4_runScript 0 = .ok (.iload_n 1, 1) := by decide +kernel
theorem dX4_runScript_1 : decode cX4_runScript 1 = .ok (.iconst 1, 1) := by decide +kernel
theorem dX4_runScript_2 : decode cX4_runScript 2 = .ok (.if_icmp .lt 8, 3) := by decide +kernel
theorem dX4_runScript_5 : decode cX4_runScript 5 = .ok (.iload_n 1, 1) := by decide +kernel
theorem dX4_runScript_6 : decode cX4_runScript 6 = .ok (.iconst 3, 1) := by decide +kernel
theorem dX4_runScript_7 : decode cX4_runScript 7 = .ok (.if_icmp .le 13, 3) := by decide +kernel
theorem dX4_runScript_10 : decode cX4_runScript 10 = .ok (.new 48, 3) := by decide +kernel
theorem dX4_runScript_13 : decode cX4_runScript 13 = .ok (.dup, 1) := by decide +kernel
theorem dX4_runScript_14 : decode cX4_runScript 14 = .ok (.ldc 219, 2) := by decide +kernel
theorem dX4_runScript_16 : decode cX4_runScript 16 = .ok (.invokespecial 52, 3) := by decide +kernel
theorem dX4_runScript_19 : decode cX4_runScript 19 = .ok (.athrow, 1) := by decide +kernel
theorem dX4_runScript_20 : decode cX4_runScript 20 = .ok (.lload_n 2, 1) := by decide +kernel
theorem dX4_runScript_21 : decode cX4_runScript 21 = .ok (.lconst 0, 1) := by decide +kernel
theorem dX4_runScript_22 : decode cX4_runScript 22 = .ok (.lcmp, 1) := by decide +kernel
theorem dX4_runScript_23 : decode cX4_runScript 23 = .ok (.ifCond .lt 13, 3) := by decide +kernel
theorem dX4_runScript_26 : decode cX4_runScript 26 = .ok (.lload_n 2, 1) := by decide +kernel
theorem dX4_runScript_27 : decode cX4_runScript 27 = .ok (.iload_n 1, 1) := by decide +kernel
theorem dX4_runScript_28 : decode cX4_runScript 28 = .ok (.invokestatic 221, 3) := by decide +kernel
theorem dX4_runScript_31 : decode cX4_runScript 31 = .ok (.lconst 0, 1) := by decide +kernel
theorem dX4_runScript_32 : decode cX4_runScript 32 = .ok (.lcmp, 1) := by decide +kernel
theorem dX4_runScript_33 : decode cX4_runScript 33 = .ok (.ifCond .le 13, 3) := by decide +kernel
theorem dX4_runScript_36 : decode cX4_runScript 36 = .ok (.new 48, 3) := by decide +kernel
theorem dX4_runScript_39 : decode cX4_runScript 39 = .ok (.dup, 1) := by decide +kernel
theorem dX4_runScript_40 : decode cX4_runScript 40 = .ok (.ldc 225, 2) := by decide +kernel
theorem dX4_runScript_42 : decode cX4_runScript 42 = .ok (.invokespecial 52, 3) := by decide +kernel
theorem dX4_runScript_45 : decode cX4_runScript 45 = .ok (.athrow, 1) := by decide +kernel
theorem dX4_runScript_46 : decode cX4_runScript 46 = .ok (.aload_n 0, 1) := by decide +kernel
theorem dX4_runScript_47 : decode cX4_runScript 47 = .ok (.getfield 23, 3) := by decide +kernel
theorem dX4_runScript_50 : decode cX4_runScript 50 = .ok (.aload_n 0, 1) := by decide +kernel
theorem dX4_runScript_51 : decode cX4_runScript 51 = .ok (.getfield 19, 3) := by decide +kernel
theorem dX4_runScript_54 : decode cX4_runScript 54 = .ok (.invokevirtual 81, 3) := by decide +kernel
theorem dX4_runScript_57 : decode cX4_runScript 57 = .ok (.iconst 0, 1) := by decide +kernel
theorem dX4_runScript_58 : decode cX4_runScript 58 = .ok (.istore 4, 2) := by decide +kernel
theorem dX4_runScript_60 : decode cX4_runScript 60 = .ok (.iload 4, 2) := by decide +kernel
theorem dX4_runScript_62 : decode cX4_runScript 62 = .ok (.iload_n 1, 1) := by decide +kernel
theorem dX4_runScript_63 : decode cX4_runScript 63 = .ok (.if_icmp .ge 34, 3) := by decide +kernel
theorem dX4_runScript_66 : decode cX4_runScript 66 = .ok (.aload_n 0, 1) := by decide +kernel
theorem dX4_runScript_67 : decode cX4_runScript 67 = .ok (.lload_n 2, 1) := by decide +kernel
theorem dX4_runScript_68 : decode cX4_runScript 68 = .ok (.iload_n 1, 1) := by decide +kernel
theorem dX4_runScript_69 : decode cX4_runScript 69 = .ok (.iconst 1, 1) := by decide +kernel
theorem dX4_runScript_70 : decode cX4_runScript 70 = .ok (.isub, 1) := by decide +kernel
theorem dX4_runScript_71 : decode cX4_runScript 71 = .ok (.iload 4, 2) := by decide +kernel
theorem dX4_runScript_73 : decode cX4_runScript 73 = .ok (.isub, 1) := by decide +kernel
theorem dX4_runScript_74 : decode cX4_runScript 74 = .ok (.invokestatic 221, 3) := by decide +kernel
theorem dX4_runScript_77 : decode cX4_runScript 77 = .ok (.ldc2_w 227, 3) := by decide +kernel
theorem dX4_runScript_80 : decode cX4_runScript 80 = .ok (.lrem, 1) := by decide +kernel
theorem dX4_runScript_81 : decode cX4_runScript 81 = .ok (.l2i, 1) := by decide +kernel
theorem dX4_runScript_82 : decode cX4_runScript 82 = .ok (.invokevirtual 229, 3) := by decide +kernel
theorem dX4_runScript_85 : decode cX4_runScript 85 = .ok (.ifCond .ne 6, 3) := by decide +kernel
theorem dX4_runScript_88 : decode cX4_runScript 88 = .ok (.iload 4, 2) := by decide +kernel
theorem dX4_runScript_90 : decode cX4_runScript 90 = .ok (.ireturn, 1) := by decide +kernel
theorem dX4_runScript_91 : decode cX4_runScript 91 = .ok (.iinc 4 1, 3) := by decide +kernel
theorem dX4_runScript_94 : decode cX4_runScript 94 = .ok (.goto (-34), 3) := by decide +kernel
theorem dX4_runScript_97 : decode cX4_runScript 97 = .ok (.iconst (-1), 1) := by decide +kernel
theorem dX4_runScript_98 : decode cX4_runScript 98 = .ok (.ireturn, 1) := by decide +kernel
set_option maxRecDepth 20000 in
theorem ggX4_simulate_X0_takeFrom : GoodIn wsX4_simulate wsX0_takeFrom := goodIn_r _ [17, 18, 19, 20, 21, 22, 23, 24, 25, 26, 27, 147, 148, 149, 150, 151, 152, 153, 154, 155, 156] (by decide +kernel) (by decide +kernel)
set_option maxRecDepth 20000 in
theorem gX4_simulate_X0_takeFrom : GoodIn wsX4_simulate (wsV RX4 81 RX0 yX0_takeFrom wsX0_takeFrom) := goodIn_app (goodIn_of _ (by decide +kernel)) ggX4_simulate_X0_takeFrom
set_option maxRecDepth 20000 in
theorem ggX4_simulate_X4_simulateOne : GoodIn wsX4_simulate wsX4_simulateOne := goodIn_r _ [32, 3, 33, 34, 35, 36, 37, 16, 38, 23, 24, 39, 40, 41, 42, 26, 20, 43, 44, 45, 46, 47, 48, 49, 50, 51, 52, 53, 22, 54, 55, 56, 57, 27, 58, 59, 60, 61, 21, 62, 63, 64, 65, 66, 67, 68, 69, 70, 71, 11, 72, 25, 73, 74, 75, 76, 77, 78, 79, 80, 81, 82, 83, 84, 85, 141, 142, 143, 144, 145, 146, 147, 148, 149, 150, 151, 152, 153, 154, 155, 156] (by decide +kernel) (by decide +kernel)
set_option maxRecDepth 20000 in
theorem gX4_simulate_X4_simulateOne : GoodIn wsX4_simulate (wsV RX4 238 RX4 yX4_simulateOne wsX4_simulateOne) := goodIn_app (goodIn_of _ (by decide +kernel)) ggX4_simulate_X4_simulateOne
set_option maxRecDepth 20000 in
theorem ggX4_simulate_X1_learnFrom : GoodIn wsX4_simulate wsX1_learnFrom := goodIn_r _ [90, 91, 92, 93, 94, 95, 96, 89, 97, 98, 71, 11, 72, 99, 100, 101, 102, 103, 104, 55, 56, 16, 57, 27, 105, 106, 107, 108, 20, 54, 109, 110, 111, 112, 113, 114, 115, 116, 117, 118, 119, 120, 121, 122, 123, 124, 147, 148, 149, 150, 151, 152, 153, 154, 155, 156, 157, 158] (by decide +kernel) (by decide +kernel)
set_option maxRecDepth 20000 in
theorem gX4_simulate_X1_learnFrom : GoodIn wsX4_simulate (wsV RX4 119 RX1 yX1_learnFrom wsX1_learnFrom) := goodIn_app (goodIn_of _ (by decide +kernel)) ggX4_simulate_X1_learnFrom
set_option maxRecDepth 20000 in
theorem ggX4_simulate_X1_countSure : GoodIn wsX4_simulate wsX1_countSure := goodIn_r _ [128, 92, 129, 130, 131, 89, 132, 133, 134, 135, 136, 113, 114, 115, 116, 103, 137, 138, 139, 140, 157, 158] (by decide +kernel) (by decide +kernel)
set_option maxRecDepth 20000 in
theorem gX4_simulate_X1_countSure : GoodIn wsX4_simulate (wsV RX4 123 RX1 yX1_countSure wsX1_countSure) := goodIn_app (goodIn_of _ (by decide +kernel)) ggX4_simulate_X1_countSure
theorem dX4_simulate_0 : decode cX4_simulate 0 = .ok (.iload_n 3, 1) := by decide +kernel
theorem dX4_simulate_1 : decode cX4_simulate 1 = .ok (.iconst 1, 1) := by decide +kernel
theorem dX4_simulate_2 : decode cX4_simulate 2 = .ok (.if_icmp .lt 9, 3) := by decide +kernel
theorem dX4_simulate_5 : decode cX4_simulate 5 = .ok (.iload_n 3, 1) := by decide +kernel
theorem dX4_simulate_6 : decode cX4_simulate 6 = .ok (.bipush 30, 2) := by decide +kernel
theorem dX4_simulate_8 : decode cX4_simulate 8 = .ok (.if_icmp .le 13, 3) := by decide +kernel
theorem dX4_simulate_11 : decode cX4_simulate 11 = .ok (.new 48, 3) := by decide +kernel
theorem dX4_simulate_14 : decode cX4_simulate 14 = .ok (.dup, 1) := by decide +kernel
theorem dX4_simulate_15 : decode cX4_simulate 15 = .ok (.ldc 232, 2) := by decide +kernel
theorem dX4_simulate_17 : decode cX4_simulate 17 = .ok (.invokespecial 52, 3) := by decide +kernel
theorem dX4_simulate_20 : decode cX4_simulate 20 = .ok (.athrow, 1) := by decide +kernel
theorem dX4_simulate_21 : decode cX4_simulate 21 = .ok (.aload_n 0, 1) := by decide +kernel
theorem dX4_simulate_22 : decode cX4_simulate 22 = .ok (.getfield 23, 3) := by decide +kernel
theorem dX4_simulate_25 : decode cX4_simulate 25 = .ok (.aload_n 0, 1) := by decide +kernel
theorem dX4_simulate_26 : decode cX4_simulate 26 = .ok (.getfield 19, 3) := by decide +kernel
theorem dX4_simulate_29 : decode cX4_simulate 29 = .ok (.invokevirtual 81, 3) := by decide +kernel
theorem dX4_simulate_32 : decode cX4_simulate 32 = .ok (.lload_n 1, 1) := by decide +kernel
theorem dX4_simulate_33 : decode cX4_simulate 33 = .ok (.lstore 4, 2) := by decide +kernel
theorem dX4_simulate_35 : decode cX4_simulate 35 = .ok (.iconst 0, 1) := by decide +kernel
theorem dX4_simulate_36 : decode cX4_simulate 36 = .ok (.istore 6, 2) := by decide +kernel
theorem dX4_simulate_38 : decode cX4_simulate 38 = .ok (.iload 6, 2) := by decide +kernel
theorem dX4_simulate_40 : decode cX4_simulate 40 = .ok (.iload_n 3, 1) := by decide +kernel
theorem dX4_simulate_41 : decode cX4_simulate 41 = .ok (.if_icmp .ge 31, 3) := by decide +kernel
theorem dX4_simulate_44 : decode cX4_simulate 44 = .ok (.lload 4, 2) := by decide +kernel
theorem dX4_simulate_46 : decode cX4_simulate 46 = .ok (.ldc2_w 234, 3) := by decide +kernel
theorem dX4_simulate_49 : decode cX4_simulate 49 = .ok (.lmul, 1) := by decide +kernel
theorem dX4_simulate_50 : decode cX4_simulate 50 = .ok (.ldc2_w 236, 3) := by decide +kernel
theorem dX4_simulate_53 : decode cX4_simulate 53 = .ok (.ladd, 1) := by decide +kernel
theorem dX4_simulate_54 : decode cX4_simulate 54 = .ok (.lstore 4, 2) := by decide +kernel
theorem dX4_simulate_56 : decode cX4_simulate 56 = .ok (.aload_n 0, 1) := by decide +kernel
theorem dX4_simulate_57 : decode cX4_simulate 57 = .ok (.lload 4, 2) := by decide +kernel
theorem dX4_simulate_59 : decode cX4_simulate 59 = .ok (.bipush 33, 2) := by decide +kernel
theorem dX4_simulate_61 : decode cX4_simulate 61 = .ok (.lushr, 1) := by decide +kernel
theorem dX4_simulate_62 : decode cX4_simulate 62 = .ok (.l2i, 1) := by decide +kernel
theorem dX4_simulate_63 : decode cX4_simulate 63 = .ok (.invokevirtual 238, 3) := by decide +kernel
theorem dX4_simulate_66 : decode cX4_simulate 66 = .ok (.iinc 6 1, 3) := by decide +kernel
theorem dX4_simulate_69 : decode cX4_simulate 69 = .ok (.goto (-31), 3) := by decide +kernel
theorem dX4_simulate_72 : decode cX4_simulate 72 = .ok (.aload_n 0, 1) := by decide +kernel
theorem dX4_simulate_73 : decode cX4_simulate 73 = .ok (.getfield 29, 3) := by decide +kernel
theorem dX4_simulate_76 : decode cX4_simulate 76 = .ok (.aload_n 0, 1) := by decide +kernel
theorem dX4_simulate_77 : decode cX4_simulate 77 = .ok (.getfield 23, 3) := by decide +kernel
theorem dX4_simulate_80 : decode cX4_simulate 80 = .ok (.iconst (-1), 1) := by decide +kernel
theorem dX4_simulate_81 : decode cX4_simulate 81 = .ok (.invokevirtual 119, 3) := by decide +kernel
theorem dX4_simulate_84 : decode cX4_simulate 84 = .ok (.sipush 1000, 3) := by decide +kernel
theorem dX4_simulate_87 : decode cX4_simulate 87 = .ok (.aload_n 0, 1) := by decide +kernel
theorem dX4_simulate_88 : decode cX4_simulate 88 = .ok (.getfield 29, 3) := by decide +kernel
theorem dX4_simulate_91 : decode cX4_simulate 91 = .ok (.invokevirtual 123, 3) := by decide +kernel
theorem dX4_simulate_94 : decode cX4_simulate 94 = .ok (.imul, 1) := by decide +kernel
theorem dX4_simulate_95 : decode cX4_simulate 95 = .ok (.aload_n 0, 1) := by decide +kernel
theorem dX4_simulate_96 : decode cX4_simulate 96 = .ok (.getfield 23, 3) := by decide +kernel
theorem dX4_simulate_99 : decode cX4_simulate 99 = .ok (.getfield 110, 3) := by decide +kernel
theorem dX4_simulate_102 : decode cX4_simulate 102 = .ok (.aload_n 0, 1) := by decide +kernel
theorem dX4_simulate_103 : decode cX4_simulate 103 = .ok (.getfield 19, 3) := by decide +kernel
theorem dX4_simulate_106 : decode cX4_simulate 106 = .ok (.getfield 110, 3) := by decide +kernel
theorem dX4_simulate_109 : decode cX4_simulate 109 = .ok (.isub, 1) := by decide +kernel
theorem dX4_simulate_110 : decode cX4_simulate 110 = .ok (.sipush 999, 3) := by decide +kernel
theorem dX4_simulate_113 : decode cX4_simulate 113 = .ok (.invokestatic 216, 3) := by decide +kernel
theorem dX4_simulate_116 : decode cX4_simulate 116 = .ok (.iadd, 1) := by decide +kernel
theorem dX4_simulate_117 : decode cX4_simulate 117 = .ok (.ireturn, 1) := by decide +kernel
set_option maxRecDepth 20000 in
theorem ggX4_save_X4_checkSlot : GoodIn wsX4_save wsX4_checkSlot := goodIn_ca (goodIn_r _ [11, 12, 13, 1, 34, 35, 36, 37, 38, 39] (by decide +kernel) (by decide +kernel)) (goodIn_sub (fun _ h => List.mem_cons_of_mem _ (List.mem_append_right _ h)) (by decide +kernel))
set_option maxRecDepth 20000 in
theorem gX4_save_X4_checkSlot : GoodIn wsX4_save (wsV RX4 241 RX4 yX4_checkSlot wsX4_checkSlot) := goodIn_app (goodIn_of _ (by decide +kernel)) ggX4_save_X4_checkSlot
set_option maxRecDepth 20000 in
theorem ggX4_save_X0_init : GoodIn wsX4_save wsX0_init := goodIn_r _ [15, 16, 17, 18, 19, 20, 40, 41, 42, 43, 44, 45, 46, 47, 48, 49] (by decide +kernel) (by decide +kernel)
set_option maxRecDepth 20000 in
theorem gX4_save_X0_init_n18 : GoodIn wsX4_save (wsX0_init) := ggX4_save_X0_init
set_option maxRecDepth 20000 in
theorem ggX4_save_X0_takeFrom : GoodIn wsX4_save wsX0_takeFrom := goodIn_r _ [24, 25, 26, 27, 28, 29, 30, 31, 32, 33, 20, 40, 41, 42, 43, 44, 45, 46, 47, 48, 49] (by decide +kernel) (by decide +kernel)
set_option maxRecDepth 20000 in
theorem gX4_save_X0_takeFrom : GoodIn wsX4_save (wsV RX4 81 RX0 yX0_takeFrom wsX0_takeFrom) := goodIn_app (goodIn_of _ (by decide +kernel)) ggX4_save_X0_takeFrom
theorem dX4_save_0 : decode cX4_save 0 = .ok (.aload_n 0, 1) := by decide +kernel
theorem dX4_save_1 : decode cX4_save 1 = .ok (.iload_n 1, 1) := by decide +kernel
theorem dX4_save_2 : decode cX4_save 2 = .ok (.invokevirtual 241, 3) := by decide +kernel
theorem dX4_save_5 : decode cX4_save 5 = .ok (.aload_n 0, 1) := by decide +kernel
theorem dX4_save_6 : decode cX4_save 6 = .ok (.getfield 40, 3) := by decide +kernel
theorem dX4_save_9 : decode cX4_save 9 = .ok (.iload_n 1, 1) := by decide +kernel
theorem dX4_save_10 : decode cX4_save 10 = .ok (.aaload, 1) := by decide +kernel
theorem dX4_save_11 : decode cX4_save 11 = .ok (.astore_n 2, 1) := by decide +kernel
theorem dX4_save_12 : decode cX4_save 12 = .ok (.aload_n 2, 1) := by decide +kernel
theorem dX4_save_13 : decode cX4_save 13 = .ok (.ifnonnull 18, 3) := by decide +kernel
theorem dX4_save_16 : decode cX4_save 16 = .ok (.new 16, 3) := by decide +kernel
theorem dX4_save_19 : decode cX4_save 19 = .ok (.dup, 1) := by decide +kernel
theorem dX4_save_20 : decode cX4_save 20 = .ok (.invokespecial 18, 3) := by decide +kernel
theorem dX4_save_23 : decode cX4_save 23 = .ok (.astore_n 2, 1) := by decide +kernel
theorem dX4_save_24 : decode cX4_save 24 = .ok (.aload_n 0, 1) := by decide +kernel
theorem dX4_save_25 : decode cX4_save 25 = .ok (.getfield 40, 3) := by decide +kernel
theorem dX4_save_28 : decode cX4_save 28 = .ok (.iload_n 1, 1) := by decide +kernel
theorem dX4_save_29 : decode cX4_save 29 = .ok (.aload_n 2, 1) := by decide +kernel
theorem dX4_save_30 : decode cX4_save 30 = .ok (.aastore, 1) := by decide +kernel
theorem dX4_save_31 : decode cX4_save 31 = .ok (.aload_n 2, 1) := by decide +kernel
theorem dX4_save_32 : decode cX4_save 32 = .ok (.aload_n 0, 1) := by decide +kernel
theorem dX4_save_33 : decode cX4_save 33 = .ok (.getfield 19, 3) := by decide +kernel
theorem dX4_save_36 : decode cX4_save 36 = .ok (.invokevirtual 81, 3) := by decide +kernel
theorem dX4_save_39 : decode cX4_save 39 = .ok (.aload_n 0, 1) := by decide +kernel
theorem dX4_save_40 : decode cX4_save 40 = .ok (.getfield 19, 3) := by decide +kernel
theorem dX4_save_43 : decode cX4_save 43 = .ok (.getfield 107, 3) := by decide +kernel
theorem dX4_save_46 : decode cX4_save 46 = .ok (.ireturn, 1) := by decide +kernel
set_option maxRecDepth 20000 in
theorem ggX4_restore_X4_checkSlot : GoodIn wsX4_restore wsX4_checkSlot := goodIn_ca (goodIn_r _ [11, 12, 13, 3, 35, 36, 37, 38, 39, 40] (by decide +kernel) (by decide +kernel)) (goodIn_sub (fun _ h => List.mem_cons_of_mem _ (List.mem_append_right _ h)) (by decide +kernel))
set_option maxRecDepth 20000 in
theorem gX4_restore_X4_checkSlot : GoodIn wsX4_restore (wsV RX4 241 RX4 yX4_checkSlot wsX4_checkSlot) := goodIn_app (goodIn_of _ (by decide +kernel)) ggX4_restore_X4_checkSlot
set_option maxRecDepth 20000 in
theorem ggX4_restore_X0_takeFrom : GoodIn wsX4_restore wsX0_takeFrom := goodIn_r _ [18, 19, 20, 21, 22, 23, 24, 25, 26, 27, 28, 41, 42, 43, 44, 45, 46, 47, 48, 49, 50] (by decide +kernel) (by decide +kernel)
set_option maxRecDepth 20000 in
theorem gX4_restore_X0_takeFrom : GoodIn wsX4_restore (wsV RX4 81 RX0 yX0_takeFrom wsX0_takeFrom) := goodIn_app (goodIn_of _ (by decide +kernel)) ggX4_restore_X0_takeFrom
set_option maxRecDepth 20000 in
theorem ggX4_restore_X2_forgetStates : GoodIn wsX4_restore wsX2_forgetStates := goodIn_r _ [33, 34, 51, 52, 53] (by decide +kernel) (by decide +kernel)
set_option maxRecDepth 20000 in
theorem gX4_restore_X2_forgetStates : GoodIn wsX4_restore (wsV RX4 85 RX2 yX2_forgetStates wsX2_forgetStates) := goodIn_app (goodIn_of _ (by decide +kernel)) ggX4_restore_X2_forgetStates
theorem dX4_restore_0 : decode cX4_restore 0 = .ok (.aload_n 0, 1) := by decide +kernel
theorem dX4_restore_1 : decode cX4_restore 1 = .ok (.iload_n 1, 1) := by decide +kernel
theorem dX4_restore_2 : decode cX4_restore 2 = .ok (.invokevirtual 241, 3) := by decide +kernel
theorem dX4_restore_5 : decode cX4_restore 5 = .ok (.aload_n 0, 1) := by decide +kernel
theorem dX4_restore_6 : decode cX4_restore 6 = .ok (.getfield 40, 3) := by decide +kernel
theorem dX4_restore_9 : decode cX4_restore 9 = .ok (.iload_n 1, 1) := by decide +kernel
theorem dX4_restore_10 : decode cX4_restore 10 = .ok (.aaload, 1) := by decide +kernel
theorem dX4_restore_11 : decode cX4_restore 11 = .ok (.astore_n 2, 1) := by decide +kernel
theorem dX4_restore_12 : decode cX4_restore 12 = .ok (.aload_n 2, 1) := by decide +kernel
theorem dX4_restore_13 : decode cX4_restore 13 = .ok (.ifnonnull 13, 3) := by decide +kernel
theorem dX4_restore_16 : decode cX4_restore 16 = .ok (.new 59, 3) := by decide +kernel
theorem dX4_restore_19 : decode cX4_restore 19 = .ok (.dup, 1) := by decide +kernel
theorem dX4_restore_20 : decode cX4_restore 20 = .ok (.ldc 244, 2) := by decide +kernel
theorem dX4_restore_22 : decode cX4_restore 22 = .ok (.invokespecial 63, 3) := by decide +kernel
theorem dX4_restore_25 : decode cX4_restore 25 = .ok (.athrow, 1) := by decide +kernel
theorem dX4_restore_26 : decode cX4_restore 26 = .ok (.aload_n 0, 1) := by decide +kernel
theorem dX4_restore_27 : decode cX4_restore 27 = .ok (.getfield 19, 3) := by decide +kernel
theorem dX4_restore_30 : decode cX4_restore 30 = .ok (.aload_n 2, 1) := by decide +kernel
theorem dX4_restore_31 : decode cX4_restore 31 = .ok (.invokevirtual 81, 3) := by decide +kernel
theorem dX4_restore_34 : decode cX4_restore 34 = .ok (.aload_n 0, 1) := by decide +kernel
theorem dX4_restore_35 : decode cX4_restore 35 = .ok (.getfield 36, 3) := by decide +kernel
theorem dX4_restore_38 : decode cX4_restore 38 = .ok (.invokevirtual 85, 3) := by decide +kernel
theorem dX4_restore_41 : decode cX4_restore 41 = .ok (.aload_n 0, 1) := by decide +kernel
theorem dX4_restore_42 : decode cX4_restore 42 = .ok (.getfield 19, 3) := by decide +kernel
theorem dX4_restore_45 : decode cX4_restore 45 = .ok (.getfield 107, 3) := by decide +kernel
theorem dX4_restore_48 : decode cX4_restore 48 = .ok (.ireturn, 1) := by decide +kernel
set_option maxRecDepth 20000 in
theorem ggX4_checkPlace_X0_isPlace : GoodIn wsX4_checkPlace wsX0_isPlace := goodIn_r _ [8, 9, 16, 17, 18, 19, 20, 21, 22, 23, 24, 25] (by decide +kernel) (by decide +kernel)
set_option maxRecDepth 20000 in
theorem gX4_checkPlace_X0_isPlace : GoodIn wsX4_checkPlace (wsV RX4 246 RX0 yX0_isPlace wsX0_isPlace) := goodIn_app (goodIn_of _ (by decide +kernel)) ggX4_checkPlace_X0_isPlace
theorem dX4_checkPlace_0 : decode cX4_checkPlace 0 = .ok (.aload_n 0, 1) := by decide +kernel
theorem dX4_checkPlace_1 : decode cX4_checkPlace 1 = .ok (.getfield 19, 3) := by decide +kernel
theorem dX4_checkPlace_4 : decode cX4_checkPlace 4 = .ok (.iload_n 1, 1) := by decide +kernel
theorem dX4_checkPlace_5 : decode cX4_checkPlace 5 = .ok (.invokevirtual 246, 3) := by decide +kernel
theorem dX4_checkPlace_8 : decode cX4_checkPlace 8 = .ok (.ifCond .ne 13, 3) := by decide +kernel
theorem dX4_checkPlace_11 : decode cX4_checkPlace 11 = .ok (.new 249, 3) := by decide +kernel
theorem dX4_checkPlace_14 : decode cX4_checkPlace 14 = .ok (.dup, 1) := by decide +kernel
theorem dX4_checkPlace_15 : decode cX4_checkPlace 15 = .ok (.ldc 251, 2) := by decide +kernel
theorem dX4_checkPlace_17 : decode cX4_checkPlace 17 = .ok (.invokespecial 253, 3) := by decide +kernel
theorem dX4_checkPlace_20 : decode cX4_checkPlace 20 = .ok (.athrow, 1) := by decide +kernel
theorem dX4_checkPlace_21 : decode cX4_checkPlace 21 = .ok (.return_, 1) := by decide +kernel
set_option maxRecDepth 20000 in
theorem ggX4_checkRange_X4_checkPlace : GoodIn wsX4_checkRange wsX4_checkPlace := goodIn_ca (goodIn_r _ [7, 8, 9, 10, 11, 12, 13, 14, 15, 16, 17, 18, 19, 20, 21, 22, 23, 24, 25, 26, 27, 28, 29, 30, 31, 32] (by decide +kernel) (by decide +kernel)) (goodIn_sub (fun _ h => List.mem_cons_of_mem _ (List.mem_append_right _ h)) (by decide +kernel))
set_option maxRecDepth 20000 in
theorem gX4_checkRange_X4_checkPlace : GoodIn wsX4_checkRange (wsV RX4 128 RX4 yX4_checkPlace wsX4_checkPlace) := goodIn_app (goodIn_of _ (by decide +kernel)) ggX4_checkRange_X4_checkPlace
theorem dX4_checkRange_0 : decode cX4_checkRange 0 = .ok (.aload_n 0, 1) := by decide +kernel
theorem dX4_checkRange_1 : decode cX4_checkRange 1 = .ok (.iload_n 1, 1) := by decide +kernel
theorem dX4_checkRange_2 : decode cX4_checkRange 2 = .ok (.invokevirtual 128, 3) := by decide +kernel
theorem dX4_checkRange_5 : decode cX4_checkRange 5 = .ok (.aload_n 0, 1) := by decide +kernel
theorem dX4_checkRange_6 : decode cX4_checkRange 6 = .ok (.iload_n 2, 1) := by decide +kernel
theorem dX4_checkRange_7 : decode cX4_checkRange 7 = .ok (.invokevirtual 128, 3) := by decide +kernel
theorem dX4_checkRange_10 : decode cX4_checkRange 10 = .ok (.iload_n 2, 1) := by decide +kernel
theorem dX4_checkRange_11 : decode cX4_checkRange 11 = .ok (.iload_n 1, 1) := by decide +kernel
theorem dX4_checkRange_12 : decode cX4_checkRange 12 = .ok (.if_icmp .ge 13, 3) := by decide +kernel
theorem dX4_checkRange_15 : decode cX4_checkRange 15 = .ok (.new 48, 3) := by decide +kernel
theorem dX4_checkRange_18 : decode cX4_checkRange 18 = .ok (.dup, 1) := by decide +kernel
theorem dX4_checkRange_19 : decode cX4_checkRange 19 = .ok (.ldc 254, 2) := by decide +kernel
theorem dX4_checkRange_21 : decode cX4_checkRange 21 = .ok (.invokespecial 52, 3) := by decide +kernel
theorem dX4_checkRange_24 : decode cX4_checkRange 24 = .ok (.athrow, 1) := by decide +kernel
theorem dX4_checkRange_25 : decode cX4_checkRange 25 = .ok (.return_, 1) := by decide +kernel
set_option maxRecDepth 20000 in
theorem ggX4_checkAnswer_X0_isAnswer : GoodIn wsX4_checkAnswer wsX0_isAnswer := goodIn_r _ [8, 9, 16, 17, 18, 19, 20, 21, 22, 23, 24, 25] (by decide +kernel) (by decide +kernel)
set_option maxRecDepth 20000 in
theorem gX4_checkAnswer_X0_isAnswer : GoodIn wsX4_checkAnswer (wsV RX4 256 RX0 yX0_isAnswer wsX0_isAnswer) := goodIn_app (goodIn_of _ (by decide +kernel)) ggX4_checkAnswer_X0_isAnswer
theorem dX4_checkAnswer_0 : decode cX4_checkAnswer 0 = .ok (.aload_n 0, 1) := by decide +kernel
theorem dX4_checkAnswer_1 : decode cX4_checkAnswer 1 = .ok (.getfield 19, 3) := by decide +kernel
theorem dX4_checkAnswer_4 : decode cX4_checkAnswer 4 = .ok (.iload_n 1, 1) := by decide +kernel
theorem dX4_checkAnswer_5 : decode cX4_checkAnswer 5 = .ok (.invokevirtual 256, 3) := by decide +kernel
theorem dX4_checkAnswer_8 : decode cX4_checkAnswer 8 = .ok (.ifCond .ne 14, 3) := by decide +kernel
theorem dX4_checkAnswer_11 : decode cX4_checkAnswer 11 = .ok (.new 249, 3) := by decide +kernel
theorem dX4_checkAnswer_14 : decode cX4_checkAnswer 14 = .ok (.dup, 1) := by decide +kernel
theorem dX4_checkAnswer_15 : decode cX4_checkAnswer 15 = .ok (.ldc_w 259, 3) := by decide +kernel
theorem dX4_checkAnswer_18 : decode cX4_checkAnswer 18 = .ok (.invokespecial 253, 3) := by decide +kernel
theorem dX4_checkAnswer_21 : decode cX4_checkAnswer 21 = .ok (.athrow, 1) := by decide +kernel
theorem dX4_checkAnswer_22 : decode cX4_checkAnswer 22 = .ok (.return_, 1) := by decide +kernel
theorem dX4_checkSlot_0 : decode cX4_checkSlot 0 = .ok (.iload_n 1, 1) := by decide +kernel
theorem dX4_checkSlot_1 : decode cX4_checkSlot 1 = .ok (.ifCond .lt 12, 3) := by decide +kernel
theorem dX4_checkSlot_4 : decode cX4_checkSlot 4 = .ok (.iload_n 1, 1) := by decide +kernel
theorem dX4_checkSlot_5 : decode cX4_checkSlot 5 = .ok (.aload_n 0, 1) := by decide +kernel
theorem dX4_checkSlot_6 : decode cX4_checkSlot 6 = .ok (.getfield 40, 3) := by decide +kernel
theorem dX4_checkSlot_9 : decode cX4_checkSlot 9 = .ok (.arraylength, 1) := by decide +kernel
theorem dX4_checkSlot_10 : decode cX4_checkSlot 10 = .ok (.if_icmp .lt 14, 3) := by decide +kernel
theorem dX4_checkSlot_13 : decode cX4_checkSlot 13 = .ok (.new 249, 3) := by decide +kernel
theorem dX4_checkSlot_16 : decode cX4_checkSlot 16 = .ok (.dup, 1) := by decide +kernel
theorem dX4_checkSlot_17 : decode cX4_checkSlot 17 = .ok (.ldc_w 261, 3) := by decide +kernel
theorem dX4_checkSlot_20 : decode cX4_checkSlot 20 = .ok (.invokespecial 253, 3) := by decide +kernel
theorem dX4_checkSlot_23 : decode cX4_checkSlot 23 = .ok (.athrow, 1) := by decide +kernel
theorem dX4_checkSlot_24 : decode cX4_checkSlot 24 = .ok (.return_, 1) := by decide +kernel
theorem dX4_isSetting_0 : decode cX4_isSetting 0 = .ok (.iload_n 0, 1) := by decide +kernel
theorem dX4_isSetting_1 : decode cX4_isSetting 1 = .ok (.tableswitch 75 0 2 #[27, 44, 59], 27) := by decide +kernel
theorem dX4_isSetting_28 : decode cX4_isSetting 28 = .ok (.iload_n 1, 1) := by decide +kernel
theorem dX4_isSetting_29 : decode cX4_isSetting 29 = .ok (.iconst 1, 1) := by decide +kernel
theorem dX4_isSetting_30 : decode cX4_isSetting 30 = .ok (.if_icmp .lt 13, 3) := by decide +kernel
theorem dX4_isSetting_33 : decode cX4_isSetting 33 = .ok (.iload_n 1, 1) := by decide +kernel
theorem dX4_isSetting_34 : decode cX4_isSetting 34 = .ok (.bipush 8, 2) := by decide +kernel
theorem dX4_isSetting_36 : decode cX4_isSetting 36 = .ok (.if_icmp .gt 7, 3) := by decide +kernel
theorem dX4_isSetting_39 : decode cX4_isSetting 39 = .ok (.iconst 1, 1) := by decide +kernel
theorem dX4_isSetting_40 : decode cX4_isSetting 40 = .ok (.goto 4, 3) := by decide +kernel
theorem dX4_isSetting_43 : decode cX4_isSetting 43 = .ok (.iconst 0, 1) := by decide +kernel
theorem dX4_isSetting_44 : decode cX4_isSetting 44 = .ok (.ireturn, 1) := by decide +kernel
theorem dX4_isSetting_45 : decode cX4_isSetting 45 = .ok (.iload_n 1, 1) := by decide +kernel
theorem dX4_isSetting_46 : decode cX4_isSetting 46 = .ok (.ifCond .lt 12, 3) := by decide +kernel
theorem dX4_isSetting_49 : decode cX4_isSetting 49 = .ok (.iload_n 1, 1) := by decide +kernel
theorem dX4_isSetting_50 : decode cX4_isSetting 50 = .ok (.iconst 4, 1) := by decide +kernel
theorem dX4_isSetting_51 : decode cX4_isSetting 51 = .ok (.if_icmp .gt 7, 3) := by decide +kernel
theorem dX4_isSetting_54 : decode cX4_isSetting 54 = .ok (.iconst 1, 1) := by decide +kernel
theorem dX4_isSetting_55 : decode cX4_isSetting 55 = .ok (.goto 4, 3) := by decide +kernel
theorem dX4_isSetting_58 : decode cX4_isSetting 58 = .ok (.iconst 0, 1) := by decide +kernel
theorem dX4_isSetting_59 : decode cX4_isSetting 59 = .ok (.ireturn, 1) := by decide +kernel
theorem dX4_isSetting_60 : decode cX4_isSetting 60 = .ok (.iload_n 1, 1) := by decide +kernel
theorem dX4_isSetting_61 : decode cX4_isSetting 61 = .ok (.ifCond .lt 13, 3) := by decide +kernel
theorem dX4_isSetting_64 : decode cX4_isSetting 64 = .ok (.iload_n 1, 1) := by decide +kernel
theorem dX4_isSetting_65 : decode cX4_isSetting 65 = .ok (.bipush 9, 2) := by decide +kernel
theorem dX4_isSetting_67 : decode cX4_isSetting 67 = .ok (.if_icmp .gt 7, 3) := by decide +kernel
theorem dX4_isSetting_70 : decode cX4_isSetting 70 = .ok (.iconst 1, 1) := by decide +kernel
theorem dX4_isSetting_71 : decode cX4_isSetting 71 = .ok (.goto 4, 3) := by decide +kernel
theorem dX4_isSetting_74 : decode cX4_isSetting 74 = .ok (.iconst 0, 1) := by decide +kernel
theorem dX4_isSetting_75 : decode cX4_isSetting 75 = .ok (.ireturn, 1) := by decide +kernel
theorem dX4_isSetting_76 : decode cX4_isSetting 76 = .ok (.iconst 0, 1) := by decide +kernel
theorem dX4_isSetting_77 : decode cX4_isSetting 77 = .ok (.ireturn, 1) := by decide +kernel
theorem dX4_groupsAbove_0 : decode cX4_groupsAbove 0 = .ok (.lload_n 0, 1) := by decide +kernel
theorem dX4_groupsAbove_1 : decode cX4_groupsAbove 1 = .ok (.lstore_n 3, 1) := by decide +kernel
theorem dX4_groupsAbove_2 : decode cX4_groupsAbove 2 = .ok (.iconst 0, 1) := by decide +kernel
theorem dX4_groupsAbove_3 : decode cX4_groupsAbove 3 = .ok (.istore 5, 2) := by decide +kernel
theorem dX4_groupsAbove_5 : decode cX4_groupsAbove 5 = .ok (.iload 5, 2) := by decide +kernel
theorem dX4_groupsAbove_7 : decode cX4_groupsAbove 7 = .ok (.iload_n 2, 1) := by decide +kernel
theorem dX4_groupsAbove_8 : decode cX4_groupsAbove 8 = .ok (.if_icmp .ge 15, 3) := by decide +kernel
theorem dX4_groupsAbove_11 : decode cX4_groupsAbove 11 = .ok (.lload_n 3, 1) := by decide +kernel
theorem dX4_groupsAbove_12 : decode cX4_groupsAbove 12 = .ok (.ldc2_w 227, 3) := by decide +kernel
theorem dX4_groupsAbove_15 : decode cX4_groupsAbove 15 = .ok (.ldiv, 1) := by decide +kernel
theorem dX4_groupsAbove_16 : decode cX4_groupsAbove 16 = .ok (.lstore_n 3, 1) := by decide +kernel
theorem dX4_groupsAbove_17 : decode cX4_groupsAbove 17 = .ok (.iinc 5 1, 3) := by decide +kernel
theorem dX4_groupsAbove_20 : decode cX4_groupsAbove 20 = .ok (.goto (-15), 3) := by decide +kernel
theorem dX4_groupsAbove_23 : decode cX4_groupsAbove 23 = .ok (.lload_n 3, 1) := by decide +kernel
theorem dX4_groupsAbove_24 : decode cX4_groupsAbove 24 = .ok (.lreturn, 1) := by decide +kernel
set_option maxRecDepth 20000 in
theorem ggX4_succeeds_X4_tryQuestion : GoodIn wsX4_succeeds wsX4_tryQuestion := goodIn_r _ [8, 1, 9, 10, 11, 12, 13, 14, 15, 16, 17, 18, 19, 20, 21, 22, 23, 24, 25, 26, 27, 28, 29, 30, 31, 32, 33, 34, 35, 36, 37, 38, 39, 40, 41, 42, 43, 44, 45, 46, 47, 48, 49, 50, 51, 52, 53, 54, 55, 56, 57, 58, 59, 60, 61, 62, 63, 64, 65, 66, 67, 68, 69, 70, 176, 177, 178, 179, 180, 181, 182, 183, 184, 185, 186, 187, 188, 189, 190, 191] (by decide +kernel) (by decide +kernel)
set_option maxRecDepth 20000 in
theorem gX4_succeeds_X4_tryQuestion : GoodIn wsX4_succeeds (wsV RX4 263 RX4 yX4_tryQuestion wsX4_tryQuestion) := goodIn_app (goodIn_of _ (by decide +kernel)) ggX4_succeeds_X4_tryQuestion
set_option maxRecDepth 20000 in
theorem ggX4_succeeds_X4_tryKey : GoodIn wsX4_succeeds wsX4_tryKey := goodIn_r _ [74, 1, 9, 10, 11, 12, 13, 14, 75, 76, 77, 78, 30, 43, 79, 80, 81, 82, 44, 45, 46, 47, 48, 58, 59, 60, 61, 62, 63, 64, 65, 66, 176, 177, 178, 179, 180, 181, 182, 183, 184, 185, 186, 187, 188, 189, 190, 191] (by decide +kernel) (by decide +kernel)
set_option maxRecDepth 20000 in
theorem gX4_succeeds_X4_tryKey : GoodIn wsX4_succeeds (wsV RX4 266 RX4 yX4_tryKey wsX4_tryKey) := goodIn_app (goodIn_of _ (by decide +kernel)) ggX4_succeeds_X4_tryKey
set_option maxRecDepth 20000 in
theorem ggX4_succeeds_X4_trySetting : GoodIn wsX4_succeeds wsX4_trySetting := goodIn_r _ [86, 1, 87, 88, 7, 89, 90, 91, 92, 12, 93, 19, 31, 53, 94, 95, 96, 97, 66, 43, 176, 177, 178, 179, 180, 181, 182, 183, 184, 185, 186, 187, 188, 189, 190, 191] (by decide +kernel) (by decide +kernel)
set_option maxRecDepth 20000 in
theorem gX4_succeeds_X4_trySetting : GoodIn wsX4_succeeds (wsV RX4 269 RX4 yX4_trySetting wsX4_trySetting) := goodIn_app (goodIn_of _ (by decide +kernel)) ggX4_succeeds_X4_trySetting
set_option maxRecDepth 20000 in
theorem ggX4_succeeds_X4_tryDrop : GoodIn wsX4_succeeds wsX4_tryDrop := goodIn_r _ [101, 1, 102, 103, 104, 12, 105, 43, 106, 59, 60, 61, 62, 63, 64, 65, 48, 66, 176, 177, 178, 179, 180, 181, 182, 183, 184, 185, 186, 187, 188, 189, 190, 191] (by decide +kernel) (by decide +kernel)
set_option maxRecDepth 20000 in
theorem gX4_succeeds_X4_tryDrop : GoodIn wsX4_succeeds (wsV RX4 272 RX4 yX4_tryDrop wsX4_tryDrop) := goodIn_app (goodIn_of _ (by decide +kernel)) ggX4_succeeds_X4_tryDrop
set_option maxRecDepth 20000 in
theorem ggX4_succeeds_X4_isSure : GoodIn wsX4_succeeds wsX4_isSure := goodIn_r _ [110, 1, 111, 9, 10, 11, 12, 13, 14, 112, 113, 114, 115, 116, 117, 118, 119, 120, 121, 122, 123, 124, 63, 64, 65, 125, 126, 127, 128, 129, 130, 45, 46, 47, 48, 131, 132, 133, 134, 31, 44, 135, 136, 137, 138, 139, 140, 141, 142, 143, 144, 145, 146, 147, 148, 149, 150, 151, 152, 153, 154, 155, 156, 157, 158, 159, 160, 161, 162, 176, 177, 178, 179, 180, 181, 182, 183, 184, 185, 186, 187, 188, 189, 190, 191, 192, 193] (by decide +kernel) (by decide +kernel)
set_option maxRecDepth 20000 in
theorem gX4_succeeds_X4_isSure : GoodIn wsX4_succeeds (wsV RX4 275 RX4 yX4_isSure wsX4_isSure) := goodIn_app (goodIn_of _ (by decide +kernel)) ggX4_succeeds_X4_isSure
set_option maxRecDepth 20000 in
theorem ggX4_succeeds_X4_countSureOfTrial : GoodIn wsX4_succeeds wsX4_countSureOfTrial := goodIn_r _ [166, 111, 1, 112, 113, 114, 115, 116, 117, 118, 119, 120, 121, 122, 123, 124, 63, 64, 65, 125, 126, 127, 128, 129, 130, 45, 46, 12, 47, 48, 131, 132, 133, 134, 31, 44, 135, 136, 137, 138, 139, 140, 141, 142, 143, 144, 145, 146, 147, 148, 149, 150, 167, 168, 169, 170, 171, 152, 153, 154, 155, 156, 157, 158, 159, 160, 161, 162, 176, 177, 178, 179, 180, 181, 182, 183, 184, 185, 186, 187, 188, 189, 190, 191, 192, 193] (by decide +kernel) (by decide +kernel)
set_option maxRecDepth 20000 in
theorem gX4_succeeds_X4_countSureOfTrial : GoodIn wsX4_succeeds (wsV RX4 278 RX4 yX4_countSureOfTrial wsX4_countSureOfTrial) := goodIn_app (goodIn_of _ (by decide +kernel)) ggX4_succeeds_X4_countSureOfTrial
set_option maxRecDepth 20000 in
theorem ggX4_succeeds_X0_countKeys : GoodIn wsX4_succeeds wsX0_countKeys := goodIn_r _ [175, 30, 32, 33, 34, 35, 36, 37, 38, 182, 183, 184, 185, 186, 187, 188, 189, 190, 191] (by decide +kernel) (by decide +kernel)
set_option maxRecDepth 20000 in
theorem gX4_succeeds_X0_countKeys : GoodIn wsX4_succeeds (wsV RX4 95 RX0 yX0_countKeys wsX0_countKeys) := goodIn_app (goodIn_of _ (by decide +kernel)) ggX4_succeeds_X0_countKeys
theorem dX4_succeeds_0 : decode cX4_succeeds 0 = .ok (.iload_n 1, 1) := by decide +kernel
theorem dX4_succeeds_1 : decode cX4_succeeds 1 = .ok (.bipush 100, 2) := by decide +kernel
theorem dX4_succeeds_3 : decode cX4_succeeds 3 = .ok (.idiv, 1) := by decide +kernel
theorem dX4_succeeds_4 : decode cX4_succeeds 4 = .ok (.bipush 100, 2) := by decide +kernel
theorem dX4_succeeds_6 : decode cX4_succeeds 6 = .ok (.irem, 1) := by decide +kernel
theorem dX4_succeeds_7 : decode cX4_succeeds 7 = .ok (.istore_n 2, 1) := by decide +kernel
theorem dX4_succeeds_8 : decode cX4_succeeds 8 = .ok (.iload_n 1, 1) := by decide +kernel
theorem dX4_succeeds_9 : decode cX4_succeeds 9 = .ok (.bipush 100, 2) := by decide +kernel
theorem dX4_succeeds_11 : decode cX4_succeeds 11 = .ok (.irem, 1) := by decide +kernel
theorem dX4_succeeds_12 : decode cX4_succeeds 12 = .ok (.istore_n 3, 1) := by decide +kernel
theorem dX4_succeeds_13 : decode cX4_succeeds 13 = .ok (.iload_n 1, 1) := by decide +kernel
theorem dX4_succeeds_14 : decode cX4_succeeds 14 = .ok (.sipush 10000, 3) := by decide +kernel
theorem dX4_succeeds_17 : decode cX4_succeeds 17 = .ok (.idiv, 1) := by decide +kernel
theorem dX4_succeeds_18 : decode cX4_succeeds 18 = .ok (.tableswitch 202 1 9 #[50, 57, 64, 89, 107, 114, 132, 160, 181], 50) := by decide +kernel
theorem dX4_succeeds_68 : decode cX4_succeeds 68 = .ok (.aload_n 0, 1) := by decide +kernel
theorem dX4_succeeds_69 : decode cX4_succeeds 69 = .ok (.iload_n 2, 1) := by decide +kernel
theorem dX4_succeeds_70 : decode cX4_succeeds 70 = .ok (.iload_n 3, 1) := by decide +kernel
theorem dX4_succeeds_71 : decode cX4_succeeds 71 = .ok (.invokevirtual 263, 3) := by decide +kernel
theorem dX4_succeeds_74 : decode cX4_succeeds 74 = .ok (.ireturn, 1) := by decide +kernel
theorem dX4_succeeds_75 : decode cX4_succeeds 75 = .ok (.aload_n 0, 1) := by decide +kernel
theorem dX4_succeeds_76 : decode cX4_succeeds 76 = .ok (.iload_n 2, 1) := by decide +kernel
theorem dX4_succeeds_77 : decode cX4_succeeds 77 = .ok (.iload_n 3, 1) := by decide +kernel
theorem dX4_succeeds_78 : decode cX4_succeeds 78 = .ok (.invokevirtual 266, 3) := by decide +kernel
theorem dX4_succeeds_81 : decode cX4_succeeds 81 = .ok (.ireturn, 1) := by decide +kernel
theorem dX4_succeeds_82 : decode cX4_succeeds 82 = .ok (.iload_n 3, 1) := by decide +kernel
theorem dX4_succeeds_83 : decode cX4_succeeds 83 = .ok (.ifCond .ne 22, 3) := by decide +kernel
theorem dX4_succeeds_86 : decode cX4_succeeds 86 = .ok (.aload_n 0, 1) := by decide +kernel
theorem dX4_succeeds_87 : decode cX4_succeeds 87 = .ok (.iload_n 2, 1) := by decide +kernel
theorem dX4_succeeds_88 : decode cX4_succeeds 88 = .ok (.bipush 10, 2) := by decide +kernel
theorem dX4_succeeds_90 : decode cX4_succeeds 90 = .ok (.idiv, 1) := by decide +kernel
theorem dX4_succeeds_91 : decode cX4_succeeds 91 = .ok (.iload_n 2, 1) := by decide +kernel
theorem dX4_succeeds_92 : decode cX4_succeeds 92 = .ok (.bipush 10, 2) := by decide +kernel
theorem dX4_succeeds_94 : decode cX4_succeeds 94 = .ok (.irem, 1) := by decide +kernel
theorem dX4_succeeds_95 : decode cX4_succeeds 95 = .ok (.invokevirtual 269, 3) := by decide +kernel
theorem dX4_succeeds_98 : decode cX4_succeeds 98 = .ok (.ifCond .eq 7, 3) := by decide +kernel
theorem dX4_succeeds_101 : decode cX4_succeeds 101 = .ok (.iconst 1, 1) := by decide +kernel
theorem dX4_succeeds_102 : decode cX4_succeeds 102 = .ok (.goto 4, 3) := by decide +kernel
theorem dX4_succeeds_105 : decode cX4_succeeds 105 = .ok (.iconst 0, 1) := by decide +kernel
theorem dX4_succeeds_106 : decode cX4_succeeds 106 = .ok (.ireturn, 1) := by decide +kernel
theorem dX4_succeeds_107 : decode cX4_succeeds 107 = .ok (.iload_n 3, 1) := by decide +kernel
theorem dX4_succeeds_108 : decode cX4_succeeds 108 = .ok (.ifCond .ne 15, 3) := by decide +kernel
theorem dX4_succeeds_111 : decode cX4_succeeds 111 = .ok (.aload_n 0, 1) := by decide +kernel
theorem dX4_succeeds_112 : decode cX4_succeeds 112 = .ok (.iload_n 2, 1) := by decide +kernel
theorem dX4_succeeds_113 : decode cX4_succeeds 113 = .ok (.invokevirtual 272, 3) := by decide +kernel
theorem dX4_succeeds_116 : decode cX4_succeeds 116 = .ok (.ifCond .eq 7, 3) := by decide +kernel
theorem dX4_succeeds_119 : decode cX4_succeeds 119 = .ok (.iconst 1, 1) := by decide +kernel
theorem dX4_succeeds_120 : decode cX4_succeeds 120 = .ok (.goto 4, 3) := by decide +kernel
theorem dX4_succeeds_123 : decode cX4_succeeds 123 = .ok (.iconst 0, 1) := by decide +kernel
theorem dX4_succeeds_124 : decode cX4_succeeds 124 = .ok (.ireturn, 1) := by decide +kernel
theorem dX4_succeeds_125 : decode cX4_succeeds 125 = .ok (.aload_n 0, 1) := by decide +kernel
theorem dX4_succeeds_126 : decode cX4_succeeds 126 = .ok (.iload_n 2, 1) := by decide +kernel
theorem dX4_succeeds_127 : decode cX4_succeeds 127 = .ok (.iload_n 3, 1) := by decide +kernel
theorem dX4_succeeds_128 : decode cX4_succeeds 128 = .ok (.invokevirtual 275, 3) := by decide +kernel
theorem dX4_succeeds_131 : decode cX4_succeeds 131 = .ok (.ireturn, 1) := by decide +kernel
theorem dX4_succeeds_132 : decode cX4_succeeds 132 = .ok (.iload_n 2, 1) := by decide +kernel
theorem dX4_succeeds_133 : decode cX4_succeeds 133 = .ok (.ifCond .ne 15, 3) := by decide +kernel
theorem dX4_succeeds_136 : decode cX4_succeeds 136 = .ok (.aload_n 0, 1) := by decide +kernel
theorem dX4_succeeds_137 : decode cX4_succeeds 137 = .ok (.invokevirtual 278, 3) := by decide +kernel
theorem dX4_succeeds_140 : decode cX4_succeeds 140 = .ok (.iload_n 3, 1) := by decide +kernel
theorem dX4_succeeds_141 : decode cX4_succeeds 141 = .ok (.if_icmp .lt 7, 3) := by decide +kernel
theorem dX4_succeeds_144 : decode cX4_succeeds 144 = .ok (.iconst 1, 1) := by decide +kernel
theorem dX4_succeeds_145 : decode cX4_succeeds 145 = .ok (.goto 4, 3) := by decide +kernel
theorem dX4_succeeds_148 : decode cX4_succeeds 148 = .ok (.iconst 0, 1) := by decide +kernel
theorem dX4_succeeds_149 : decode cX4_succeeds 149 = .ok (.ireturn, 1) := by decide +kernel
theorem dX4_succeeds_150 : decode cX4_succeeds 150 = .ok (.iload_n 2, 1) := by decide +kernel
theorem dX4_succeeds_151 : decode cX4_succeeds 151 = .ok (.bipush 10, 2) := by decide +kernel
theorem dX4_succeeds_153 : decode cX4_succeeds 153 = .ok (.if_icmp .ge 23, 3) := by decide +kernel
theorem dX4_succeeds_156 : decode cX4_succeeds 156 = .ok (.aload_n 0, 1) := by decide +kernel
theorem dX4_succeeds_157 : decode cX4_succeeds 157 = .ok (.getfield 23, 3) := by decide +kernel
theorem dX4_succeeds_160 : decode cX4_succeeds 160 = .ok (.getfield 110, 3) := by decide +kernel
theorem dX4_succeeds_163 : decode cX4_succeeds 163 = .ok (.bipush 100, 2) := by decide +kernel
theorem dX4_succeeds_165 : decode cX4_succeeds 165 = .ok (.iload_n 2, 1) := by decide +kernel
theorem dX4_succeeds_166 : decode cX4_succeeds 166 = .ok (.imul, 1) := by decide +kernel
theorem dX4_succeeds_167 : decode cX4_succeeds 167 = .ok (.iload_n 3, 1) := by decide +kernel
theorem dX4_succeeds_168 : decode cX4_succeeds 168 = .ok (.iadd, 1) := by decide +kernel
theorem dX4_succeeds_169 : decode cX4_succeeds 169 = .ok (.if_icmp .gt 7, 3) := by decide +kernel
theorem dX4_succeeds_172 : decode cX4_succeeds 172 = .ok (.iconst 1, 1) := by decide +kernel
theorem dX4_succeeds_173 : decode cX4_succeeds 173 = .ok (.goto 4, 3) := by decide +kernel
theorem dX4_succeeds_176 : decode cX4_succeeds 176 = .ok (.iconst 0, 1) := by decide +kernel
theorem dX4_succeeds_177 : decode cX4_succeeds 177 = .ok (.ireturn, 1) := by decide +kernel
theorem dX4_succeeds_178 : decode cX4_succeeds 178 = .ok (.iload_n 2, 1) := by decide +kernel
theorem dX4_succeeds_179 : decode cX4_succeeds 179 = .ok (.ifCond .ne 18, 3) := by decide +kernel
theorem dX4_succeeds_182 : decode cX4_succeeds 182 = .ok (.aload_n 0, 1) := by decide +kernel
theorem dX4_succeeds_183 : decode cX4_succeeds 183 = .ok (.getfield 23, 3) := by decide +kernel
theorem dX4_succeeds_186 : decode cX4_succeeds 186 = .ok (.getfield 107, 3) := by decide +kernel
theorem dX4_succeeds_189 : decode cX4_succeeds 189 = .ok (.iload_n 3, 1) := by decide +kernel
theorem dX4_succeeds_190 : decode cX4_succeeds 190 = .ok (.if_icmp .lt 7, 3) := by decide +kernel
theorem dX4_succeeds_193 : decode cX4_succeeds 193 = .ok (.iconst 1, 1) := by decide +kernel
theorem dX4_succeeds_194 : decode cX4_succeeds 194 = .ok (.goto 4, 3) := by decide +kernel
theorem dX4_succeeds_197 : decode cX4_succeeds 197 = .ok (.iconst 0, 1) := by decide +kernel
theorem dX4_succeeds_198 : decode cX4_succeeds 198 = .ok (.ireturn, 1) := by decide +kernel
theorem dX4_succeeds_199 : decode cX4_succeeds 199 = .ok (.iload_n 2, 1) := by decide +kernel
theorem dX4_succeeds_200 : decode cX4_succeeds 200 = .ok (.ifCond .ne 18, 3) := by decide +kernel
theorem dX4_succeeds_203 : decode cX4_succeeds 203 = .ok (.aload_n 0, 1) := by decide +kernel
theorem dX4_succeeds_204 : decode cX4_succeeds 204 = .ok (.getfield 23, 3) := by decide +kernel
theorem dX4_succeeds_207 : decode cX4_succeeds 207 = .ok (.invokevirtual 95, 3) := by decide +kernel
theorem dX4_succeeds_210 : decode cX4_succeeds 210 = .ok (.iload_n 3, 1) := by decide +kernel
theorem dX4_succeeds_211 : decode cX4_succeeds 211 = .ok (.if_icmp .lt 7, 3) := by decide +kernel
theorem dX4_succeeds_214 : decode cX4_succeeds 214 = .ok (.iconst 1, 1) := by decide +kernel
theorem dX4_succeeds_215 : decode cX4_succeeds 215 = .ok (.goto 4, 3) := by decide +kernel
theorem dX4_succeeds_218 : decode cX4_succeeds 218 = .ok (.iconst 0, 1) := by decide +kernel
theorem dX4_succeeds_219 : decode cX4_succeeds 219 = .ok (.ireturn, 1) := by decide +kernel
theorem dX4_succeeds_220 : decode cX4_succeeds 220 = .ok (.iconst 0, 1) := by decide +kernel
theorem dX4_succeeds_221 : decode cX4_succeeds 221 = .ok (.ireturn, 1) := by decide +kernel
set_option maxRecDepth 20000 in
theorem ggX4_tryQuestion_X0_isPlace : GoodIn wsX4_tryQuestion wsX0_isPlace := goodIn_r _ [6, 7, 70, 71, 72, 73, 74, 75, 76, 77, 78, 79] (by decide +kernel) (by decide +kernel)
set_option maxRecDepth 20000 in
theorem gX4_tryQuestion_X0_isPlace : GoodIn wsX4_tryQuestion (wsV RX4 246 RX0 yX0_isPlace wsX0_isPlace) := goodIn_app (goodIn_of _ (by decide +kernel)) ggX4_tryQuestion_X0_isPlace
set_option maxRecDepth 20000 in
theorem ggX4_tryQuestion_X0_isNarrow : GoodIn wsX4_tryQuestion wsX0_isNarrow := goodIn_r _ [11, 12, 70, 71, 72, 73, 74, 75, 76, 77, 78, 79] (by decide +kernel) (by decide +kernel)
set_option maxRecDepth 20000 in
theorem gX4_tryQuestion_X0_isNarrow : GoodIn wsX4_tryQuestion (wsV RX4 179 RX0 yX0_isNarrow wsX0_isNarrow) := goodIn_app (goodIn_of _ (by decide +kernel)) ggX4_tryQuestion_X0_isNarrow
set_option maxRecDepth 20000 in
theorem ggX4_tryQuestion_X0_question : GoodIn wsX4_tryQuestion wsX0_question := goodIn_r _ [16, 17, 18, 19, 20, 21, 5, 22, 23, 24, 25, 26, 27, 28, 29, 30, 31, 32, 33, 34, 35, 36, 37, 38, 39, 40, 41, 42, 43, 44, 45, 46, 47, 48, 49, 50, 51, 52, 53, 54, 55, 56, 57, 58, 59, 60, 61, 62, 63, 70, 71, 72, 73, 74, 75, 76, 77, 78, 79] (by decide +kernel) (by decide +kernel)
set_option maxRecDepth 20000 in
theorem gX4_tryQuestion_X0_question : GoodIn wsX4_tryQuestion (wsV RX4 184 RX0 yX0_question wsX0_question) := goodIn_app (goodIn_of _ (by decide +kernel)) ggX4_tryQuestion_X0_question
theorem dX4_tryQuestion_0 : decode cX4_tryQuestion 0 = .ok (.aload_n 0, 1) := by decide +kernel
theorem dX4_tryQuestion_1 : decode cX4_tryQuestion 1 = .ok (.getfield 23, 3) := by decide +kernel
theorem dX4_tryQuestion_4 : decode cX4_tryQuestion 4 = .ok (.iload_n 1, 1) := by decide +kernel
theorem dX4_tryQuestion_5 : decode cX4_tryQuestion 5 = .ok (.invokevirtual 246, 3) := by decide +kernel
theorem dX4_tryQuestion_8 : decode cX4_tryQuestion 8 = .ok (.ifCond .eq 31, 3) := by decide +kernel
theorem dX4_tryQuestion_11 : decode cX4_tryQuestion 11 = .ok (.aload_n 0, 1) := by decide +kernel
theorem dX4_tryQuestion_12 : decode cX4_tryQuestion 12 = .ok (.getfield 23, 3) := by decide +kernel
theorem dX4_tryQuestion_15 : decode cX4_tryQuestion 15 = .ok (.iload_n 2, 1) := by decide +kernel
theorem dX4_tryQuestion_16 : decode cX4_tryQuestion 16 = .ok (.invokevirtual 246, 3) := by decide +kernel
theorem dX4_tryQuestion_19 : decode cX4_tryQuestion 19 = .ok (.ifCond .eq 20, 3) := by decide +kernel
theorem dX4_tryQuestion_22 : decode cX4_tryQuestion 22 = .ok (.iload_n 2, 1) := by decide +kernel
theorem dX4_tryQuestion_23 : decode cX4_tryQuestion 23 = .ok (.iload_n 1, 1) := by decide +kernel
theorem dX4_tryQuestion_24 : decode cX4_tryQuestion 24 = .ok (.if_icmp .lt 15, 3) := by decide +kernel
theorem dX4_tryQuestion_27 : decode cX4_tryQuestion 27 = .ok (.aload_n 0, 1) := by decide +kernel
theorem dX4_tryQuestion_28 : decode cX4_tryQuestion 28 = .ok (.getfield 23, 3) := by decide +kernel
theorem dX4_tryQuestion_31 : decode cX4_tryQuestion 31 = .ok (.iload_n 1, 1) := by decide +kernel
theorem dX4_tryQuestion_32 : decode cX4_tryQuestion 32 = .ok (.iload_n 2, 1) := by decide +kernel
theorem dX4_tryQuestion_33 : decode cX4_tryQuestion 33 = .ok (.invokevirtual 179, 3) := by decide +kernel
theorem dX4_tryQuestion_36 : decode cX4_tryQuestion 36 = .ok (.ifCond .eq 5, 3) := by decide +kernel
theorem dX4_tryQuestion_39 : decode cX4_tryQuestion 39 = .ok (.iconst 0, 1) := by decide +kernel
theorem dX4_tryQuestion_40 : decode cX4_tryQuestion 40 = .ok (.ireturn, 1) := by decide +kernel
theorem dX4_tryQuestion_41 : decode cX4_tryQuestion 41 = .ok (.aload_n 0, 1) := by decide +kernel
theorem dX4_tryQuestion_42 : decode cX4_tryQuestion 42 = .ok (.getfield 23, 3) := by decide +kernel
theorem dX4_tryQuestion_45 : decode cX4_tryQuestion 45 = .ok (.iload_n 1, 1) := by decide +kernel
theorem dX4_tryQuestion_46 : decode cX4_tryQuestion 46 = .ok (.iload_n 2, 1) := by decide +kernel
theorem dX4_tryQuestion_47 : decode cX4_tryQuestion 47 = .ok (.invokevirtual 184, 3) := by decide +kernel
theorem dX4_tryQuestion_50 : decode cX4_tryQuestion 50 = .ok (.pop, 1) := by decide +kernel
theorem dX4_tryQuestion_51 : decode cX4_tryQuestion 51 = .ok (.iconst 1, 1) := by decide +kernel
theorem dX4_tryQuestion_52 : decode cX4_tryQuestion 52 = .ok (.ireturn, 1) := by decide +kernel
set_option maxRecDepth 20000 in
theorem ggX4_tryKey_X0_isPlace : GoodIn wsX4_tryKey wsX0_isPlace := goodIn_r _ [6, 7, 38, 39, 40, 41, 42, 43, 44, 45, 46, 47] (by decide +kernel) (by decide +kernel)
set_option maxRecDepth 20000 in
theorem gX4_tryKey_X0_isPlace : GoodIn wsX4_tryKey (wsV RX4 246 RX0 yX0_isPlace wsX0_isPlace) := goodIn_app (goodIn_of _ (by decide +kernel)) ggX4_tryKey_X0_isPlace
set_option maxRecDepth 20000 in
theorem ggX4_tryKey_X0_putKey : GoodIn wsX4_tryKey wsX0_putKey := goodIn_r _ [11, 12, 13, 14, 15, 16, 5, 17, 18, 19, 20, 21, 22, 23, 24, 25, 26, 27, 28, 29, 30, 31, 38, 39, 40, 41, 42, 43, 44, 45, 46, 47] (by decide +kernel) (by decide +kernel)
set_option maxRecDepth 20000 in
theorem gX4_tryKey_X0_putKey : GoodIn wsX4_tryKey (wsV RX4 166 RX0 yX0_putKey wsX0_putKey) := goodIn_app (goodIn_of _ (by decide +kernel)) ggX4_tryKey_X0_putKey
theorem dX4_tryKey_0 : decode cX4_tryKey 0 = .ok (.aload_n 0, 1) := by decide +kernel
theorem dX4_tryKey_1 : decode cX4_tryKey 1 = .ok (.getfield 23, 3) := by decide +kernel
theorem dX4_tryKey_4 : decode cX4_tryKey 4 = .ok (.iload_n 1, 1) := by decide +kernel
theorem dX4_tryKey_5 : decode cX4_tryKey 5 = .ok (.invokevirtual 246, 3) := by decide +kernel
theorem dX4_tryKey_8 : decode cX4_tryKey 8 = .ok (.ifCond .eq 13, 3) := by decide +kernel
theorem dX4_tryKey_11 : decode cX4_tryKey 11 = .ok (.iload_n 2, 1) := by decide +kernel
theorem dX4_tryKey_12 : decode cX4_tryKey 12 = .ok (.ifCond .eq 11, 3) := by decide +kernel
theorem dX4_tryKey_15 : decode cX4_tryKey 15 = .ok (.iload_n 2, 1) := by decide +kernel
theorem dX4_tryKey_16 : decode cX4_tryKey 16 = .ok (.bipush 10, 2) := by decide +kernel
theorem dX4_tryKey_18 : decode cX4_tryKey 18 = .ok (.if_icmp .eq 5, 3) := by decide +kernel
theorem dX4_tryKey_21 : decode cX4_tryKey 21 = .ok (.iconst 0, 1) := by decide +kernel
theorem dX4_tryKey_22 : decode cX4_tryKey 22 = .ok (.ireturn, 1) := by decide +kernel
theorem dX4_tryKey_23 : decode cX4_tryKey 23 = .ok (.aload_n 0, 1) := by decide +kernel
theorem dX4_tryKey_24 : decode cX4_tryKey 24 = .ok (.getfield 23, 3) := by decide +kernel
theorem dX4_tryKey_27 : decode cX4_tryKey 27 = .ok (.iload_n 1, 1) := by decide +kernel
theorem dX4_tryKey_28 : decode cX4_tryKey 28 = .ok (.iload_n 2, 1) := by decide +kernel
theorem dX4_tryKey_29 : decode cX4_tryKey 29 = .ok (.bipush 10, 2) := by decide +kernel
theorem dX4_tryKey_31 : decode cX4_tryKey 31 = .ok (.if_icmp .ne 7, 3) := by decide +kernel
theorem dX4_tryKey_34 : decode cX4_tryKey 34 = .ok (.iconst 1, 1) := by decide +kernel
theorem dX4_tryKey_35 : decode cX4_tryKey 35 = .ok (.goto 4, 3) := by decide +kernel
theorem dX4_tryKey_38 : decode cX4_tryKey 38 = .ok (.iconst 0, 1) := by decide +kernel
theorem dX4_tryKey_39 : decode cX4_tryKey 39 = .ok (.invokevirtual 166, 3) := by decide +kernel
theorem dX4_tryKey_42 : decode cX4_tryKey 42 = .ok (.pop, 1) := by decide +kernel
theorem dX4_tryKey_43 : decode cX4_tryKey 43 = .ok (.iconst 1, 1) := by decide +kernel
theorem dX4_tryKey_44 : decode cX4_tryKey 44 = .ok (.ireturn, 1) := by decide +kernel
set_option maxRecDepth 20000 in
theorem ggX4_trySetting_X4_isSetting : GoodIn wsX4_trySetting wsX4_isSetting := goodIn_r _ [5] (by decide +kernel) (by decide +kernel)
set_option maxRecDepth 20000 in
theorem gX4_trySetting_X4_isSetting : GoodIn wsX4_trySetting (va_wsS RX4 170 yX4_isSetting wsX4_isSetting) := goodIn_app (goodIn_of _ (by decide +kernel)) ggX4_trySetting_X4_isSetting
set_option maxRecDepth 20000 in
theorem ggX4_trySetting_X0_change : GoodIn wsX4_trySetting wsX0_change := goodIn_r _ [10, 11, 12, 13, 14, 15, 16, 9, 17, 18, 19, 26, 27, 28, 29, 30, 31, 32, 33, 34, 35] (by decide +kernel) (by decide +kernel)
set_option maxRecDepth 20000 in
theorem gX4_trySetting_X0_change : GoodIn wsX4_trySetting (wsV RX4 176 RX0 yX0_change wsX0_change) := goodIn_app (goodIn_of _ (by decide +kernel)) ggX4_trySetting_X0_change
theorem dX4_trySetting_0 : decode cX4_trySetting 0 = .ok (.iload_n 1, 1) := by decide +kernel
theorem dX4_trySetting_1 : decode cX4_trySetting 1 = .ok (.iload_n 2, 1) := by decide +kernel
theorem dX4_trySetting_2 : decode cX4_trySetting 2 = .ok (.invokestatic 170, 3) := by decide +kernel
theorem dX4_trySetting_5 : decode cX4_trySetting 5 = .ok (.ifCond .ne 5, 3) := by decide +kernel
theorem dX4_trySetting_8 : decode cX4_trySetting 8 = .ok (.iconst 0, 1) := by decide +kernel
theorem dX4_trySetting_9 : decode cX4_trySetting 9 = .ok (.ireturn, 1) := by decide +kernel
theorem dX4_trySetting_10 : decode cX4_trySetting 10 = .ok (.aload_n 0, 1) := by decide +kernel
theorem dX4_trySetting_11 : decode cX4_trySetting 11 = .ok (.getfield 23, 3) := by decide +kernel
theorem dX4_trySetting_14 : decode cX4_trySetting 14 = .ok (.iload_n 1, 1) := by decide +kernel
theorem dX4_trySetting_15 : decode cX4_trySetting 15 = .ok (.iload_n 2, 1) := by decide +kernel
theorem dX4_trySetting_16 : decode cX4_trySetting 16 = .ok (.invokevirtual 176, 3) := by decide +kernel
theorem dX4_trySetting_19 : decode cX4_trySetting 19 = .ok (.pop, 1) := by decide +kernel
theorem dX4_trySetting_20 : decode cX4_trySetting 20 = .ok (.iconst 1, 1) := by decide +kernel
theorem dX4_trySetting_21 : decode cX4_trySetting 21 = .ok (.ireturn, 1) := by decide +kernel
set_option maxRecDepth 20000 in
theorem ggX4_tryDrop_X0_isAnswer : GoodIn wsX4_tryDrop wsX0_isAnswer := goodIn_r _ [6, 7, 24, 25, 26, 27, 28, 29, 30, 31, 32, 33] (by decide +kernel) (by decide +kernel)
set_option maxRecDepth 20000 in
theorem gX4_tryDrop_X0_isAnswer : GoodIn wsX4_tryDrop (wsV RX4 256 RX0 yX0_isAnswer wsX0_isAnswer) := goodIn_app (goodIn_of _ (by decide +kernel)) ggX4_tryDrop_X0_isAnswer
set_option maxRecDepth 20000 in
theorem ggX4_tryDrop_X0_drop : GoodIn wsX4_tryDrop wsX0_drop := goodIn_r _ [11, 12, 13, 14, 15, 16, 7, 17, 24, 25, 26, 27, 28, 29, 30, 31, 32, 33] (by decide +kernel) (by decide +kernel)
set_option maxRecDepth 20000 in
theorem gX4_tryDrop_X0_drop : GoodIn wsX4_tryDrop (wsV RX4 187 RX0 yX0_drop wsX0_drop) := goodIn_app (goodIn_of _ (by decide +kernel)) ggX4_tryDrop_X0_drop
theorem dX4_tryDrop_0 : decode cX4_tryDrop 0 = .ok (.aload_n 0, 1) := by decide +kernel
theorem dX4_tryDrop_1 : decode cX4_tryDrop 1 = .ok (.getfield 23, 3) := by decide +kernel
theorem dX4_tryDrop_4 : decode cX4_tryDrop 4 = .ok (.iload_n 1, 1) := by decide +kernel
theorem dX4_tryDrop_5 : decode cX4_tryDrop 5 = .ok (.invokevirtual 256, 3) := by decide +kernel
theorem dX4_tryDrop_8 : decode cX4_tryDrop 8 = .ok (.ifCond .ne 5, 3) := by decide +kernel
theorem dX4_tryDrop_11 : decode cX4_tryDrop 11 = .ok (.iconst 0, 1) := by decide +kernel
theorem dX4_tryDrop_12 : decode cX4_tryDrop 12 = .ok (.ireturn, 1) := by decide +kernel
theorem dX4_tryDrop_13 : decode cX4_tryDrop 13 = .ok (.aload_n 0, 1) := by decide +kernel
theorem dX4_tryDrop_14 : decode cX4_tryDrop 14 = .ok (.getfield 23, 3) := by decide +kernel
theorem dX4_tryDrop_17 : decode cX4_tryDrop 17 = .ok (.iload_n 1, 1) := by decide +kernel
theorem dX4_tryDrop_18 : decode cX4_tryDrop 18 = .ok (.invokevirtual 187, 3) := by decide +kernel
theorem dX4_tryDrop_21 : decode cX4_tryDrop 21 = .ok (.iconst 1, 1) := by decide +kernel
theorem dX4_tryDrop_22 : decode cX4_tryDrop 22 = .ok (.ireturn, 1) := by decide +kernel
set_option maxRecDepth 20000 in
theorem ggX4_isSure_X0_isPlace : GoodIn wsX4_isSure wsX0_isPlace := goodIn_r _ [7, 8, 75, 76, 77, 78, 79, 80, 81, 82, 83, 84] (by decide +kernel) (by decide +kernel)
set_option maxRecDepth 20000 in
theorem gX4_isSure_X0_isPlace : GoodIn wsX4_isSure (wsV RX4 246 RX0 yX0_isPlace wsX0_isPlace) := goodIn_app (goodIn_of _ (by decide +kernel)) ggX4_isSure_X0_isPlace
set_option maxRecDepth 20000 in
theorem ggX4_isSure_X1_learnFrom : GoodIn wsX4_isSure wsX1_learnFrom := goodIn_r _ [13, 14, 15, 16, 17, 18, 19, 12, 20, 21, 22, 23, 24, 25, 26, 27, 28, 29, 30, 31, 32, 6, 33, 34, 35, 36, 37, 38, 39, 40, 41, 42, 43, 44, 45, 46, 47, 48, 49, 50, 51, 52, 53, 54, 55, 56, 75, 76, 77, 78, 79, 80, 81, 82, 83, 84, 85, 86] (by decide +kernel) (by decide +kernel)
set_option maxRecDepth 20000 in
theorem gX4_isSure_X1_learnFrom : GoodIn wsX4_isSure (wsV RX4 119 RX1 yX1_learnFrom wsX1_learnFrom) := goodIn_app (goodIn_of _ (by decide +kernel)) ggX4_isSure_X1_learnFrom
set_option maxRecDepth 20000 in
theorem ggX4_isSure_X1_sure : GoodIn wsX4_isSure wsX1_sure := goodIn_r _ [60, 61, 62, 63, 12, 64, 45, 46, 47, 48, 29, 65, 66, 67, 68, 85, 86] (by decide +kernel) (by decide +kernel)
set_option maxRecDepth 20000 in
theorem gX4_isSure_X1_sure : GoodIn wsX4_isSure (wsV RX4 154 RX1 yX1_sure wsX1_sure) := goodIn_app (goodIn_of _ (by decide +kernel)) ggX4_isSure_X1_sure
theorem dX4_isSure_0 : decode cX4_isSure 0 = .ok (.aload_n 0, 1) := by decide +kernel
theorem dX4_isSure_1 : decode cX4_isSure 1 = .ok (.getfield 23, 3) := by decide +kernel
theorem dX4_isSure_4 : decode cX4_isSure 4 = .ok (.iload_n 1, 1) := by decide +kernel
theorem dX4_isSure_5 : decode cX4_isSure 5 = .ok (.invokevirtual 246, 3) := by decide +kernel
theorem dX4_isSure_8 : decode cX4_isSure 8 = .ok (.ifCond .eq 8, 3) := by decide +kernel
theorem dX4_isSure_11 : decode cX4_isSure 11 = .ok (.iload_n 2, 1) := by decide +kernel
theorem dX4_isSure_12 : decode cX4_isSure 12 = .ok (.iconst 1, 1) := by decide +kernel
theorem dX4_isSure_13 : decode cX4_isSure 13 = .ok (.if_icmp .le 5, 3) := by decide +kernel
theorem dX4_isSure_16 : decode cX4_isSure 16 = .ok (.iconst 0, 1) := by decide +kernel
theorem dX4_isSure_17 : decode cX4_isSure 17 = .ok (.ireturn, 1) := by decide +kernel
theorem dX4_isSure_18 : decode cX4_isSure 18 = .ok (.aload_n 0, 1) := by decide +kernel
theorem dX4_isSure_19 : decode cX4_isSure 19 = .ok (.getfield 29, 3) := by decide +kernel
theorem dX4_isSure_22 : decode cX4_isSure 22 = .ok (.aload_n 0, 1) := by decide +kernel
theorem dX4_isSure_23 : decode cX4_isSure 23 = .ok (.getfield 23, 3) := by decide +kernel
theorem dX4_isSure_26 : decode cX4_isSure 26 = .ok (.iconst (-1), 1) := by decide +kernel
theorem dX4_isSure_27 : decode cX4_isSure 27 = .ok (.invokevirtual 119, 3) := by decide +kernel
theorem dX4_isSure_30 : decode cX4_isSure 30 = .ok (.aload_n 0, 1) := by decide +kernel
theorem dX4_isSure_31 : decode cX4_isSure 31 = .ok (.getfield 29, 3) := by decide +kernel
theorem dX4_isSure_34 : decode cX4_isSure 34 = .ok (.iload_n 1, 1) := by decide +kernel
theorem dX4_isSure_35 : decode cX4_isSure 35 = .ok (.invokevirtual 154, 3) := by decide +kernel
theorem dX4_isSure_38 : decode cX4_isSure 38 = .ok (.iload_n 2, 1) := by decide +kernel
theorem dX4_isSure_39 : decode cX4_isSure 39 = .ok (.if_icmp .ne 7, 3) := by decide +kernel
theorem dX4_isSure_42 : decode cX4_isSure 42 = .ok (.iconst 1, 1) := by decide +kernel
theorem dX4_isSure_43 : decode cX4_isSure 43 = .ok (.goto 4, 3) := by decide +kernel
theorem dX4_isSure_46 : decode cX4_isSure 46 = .ok (.iconst 0, 1) := by decide +kernel
theorem dX4_isSure_47 : decode cX4_isSure 47 = .ok (.ireturn, 1) := by decide +kernel
set_option maxRecDepth 20000 in
theorem ggX4_countSureOfTrial_X1_learnFrom : GoodIn wsX4_countSureOfTrial wsX1_learnFrom := goodIn_r _ [7, 8, 9, 10, 11, 12, 13, 6, 14, 15, 16, 17, 18, 19, 20, 21, 22, 23, 24, 25, 26, 27, 28, 29, 30, 31, 32, 33, 34, 35, 36, 37, 38, 39, 40, 41, 42, 43, 44, 45, 46, 47, 48, 49, 50, 51, 74, 75, 76, 77, 78, 79, 80, 81, 82, 83, 84, 85] (by decide +kernel) (by decide +kernel)
set_option maxRecDepth 20000 in
theorem gX4_countSureOfTrial_X1_learnFrom : GoodIn wsX4_countSureOfTrial (wsV RX4 119 RX1 yX1_learnFrom wsX1_learnFrom) := goodIn_app (goodIn_of _ (by decide +kernel)) ggX4_countSureOfTrial_X1_learnFrom
set_option maxRecDepth 20000 in
theorem ggX4_countSureOfTrial_X1_countSure : GoodIn wsX4_countSureOfTrial wsX1_countSure := goodIn_r _ [55, 9, 56, 57, 58, 6, 59, 60, 61, 62, 63, 40, 41, 42, 43, 23, 64, 65, 66, 67, 84, 85] (by decide +kernel) (by decide +kernel)
set_option maxRecDepth 20000 in
theorem gX4_countSureOfTrial_X1_countSure : GoodIn wsX4_countSureOfTrial (wsV RX4 123 RX1 yX1_countSure wsX1_countSure) := goodIn_app (goodIn_of _ (by decide +kernel)) ggX4_countSureOfTrial_X1_countSure
theorem dX4_countSureOfTrial_0 : decode cX4_countSureOfTrial 0 = .ok (.aload_n 0, 1) := by decide +kernel
theorem dX4_countSureOfTrial_1 : decode cX4_countSureOfTrial 1 = .ok (.getfield 29, 3) := by decide +kernel
theorem dX4_countSureOfTrial_4 : decode cX4_countSureOfTrial 4 = .ok (.aload_n 0, 1) := by decide +kernel
theorem dX4_countSureOfTrial_5 : decode cX4_countSureOfTrial 5 = .ok (.getfield 23, 3) := by decide +kernel
theorem dX4_countSureOfTrial_8 : decode cX4_countSureOfTrial 8 = .ok (.iconst (-1), 1) := by decide +kernel
theorem dX4_countSureOfTrial_9 : decode cX4_countSureOfTrial 9 = .ok (.invokevirtual 119, 3) := by decide +kernel
theorem dX4_countSureOfTrial_12 : decode cX4_countSureOfTrial 12 = .ok (.aload_n 0, 1) := by decide +kernel
theorem dX4_countSureOfTrial_13 : decode cX4_countSureOfTrial 13 = .ok (.getfield 29, 3) := by decide +kernel
theorem dX4_countSureOfTrial_16 : decode cX4_countSureOfTrial 16 = .ok (.invokevirtual 123, 3) := by decide +kernel
theorem dX4_countSureOfTrial_19 : decode cX4_countSureOfTrial 19 = .ok (.ireturn, 1) := by decide +kernel
set_option maxRecDepth 20000 in
theorem ggX4_simulateOne_X0_question : GoodIn wsX4_simulateOne wsX0_question := goodIn_r _ [8, 9, 10, 11, 12, 13, 7, 14, 15, 16, 17, 18, 19, 20, 21, 22, 23, 24, 25, 26, 27, 28, 29, 30, 31, 32, 33, 34, 35, 36, 37, 38, 39, 40, 41, 42, 43, 44, 45, 46, 47, 48, 49, 50, 51, 52, 53, 54, 55, 71, 72, 73, 74, 75, 76, 77, 78, 79, 80] (by decide +kernel) (by decide +kernel)
set_option maxRecDepth 20000 in
theorem gX4_simulateOne_X0_question : GoodIn wsX4_simulateOne (wsV RX4 184 RX0 yX0_question wsX0_question) := goodIn_app (goodIn_of _ (by decide +kernel)) ggX4_simulateOne_X0_question
set_option maxRecDepth 20000 in
theorem ggX4_simulateOne_X0_hasKey : GoodIn wsX4_simulateOne wsX0_hasKey := goodIn_r _ [59, 15, 71, 72, 73, 74, 75, 76, 77, 78, 79, 80] (by decide +kernel) (by decide +kernel)
set_option maxRecDepth 20000 in
theorem gX4_simulateOne_X0_hasKey : GoodIn wsX4_simulateOne (wsV RX4 131 RX0 yX0_hasKey wsX0_hasKey) := goodIn_app (goodIn_of _ (by decide +kernel)) ggX4_simulateOne_X0_hasKey
set_option maxRecDepth 20000 in
theorem ggX4_simulateOne_X0_putKey : GoodIn wsX4_simulateOne wsX0_putKey := goodIn_r _ [63, 15, 28, 64, 57, 58, 7, 59, 29, 30, 31, 32, 33, 43, 44, 45, 46, 47, 48, 49, 50, 51, 71, 72, 73, 74, 75, 76, 77, 78, 79, 80] (by decide +kernel) (by decide +kernel)
set_option maxRecDepth 20000 in
theorem gX4_simulateOne_X0_putKey : GoodIn wsX4_simulateOne (wsV RX4 166 RX0 yX0_putKey wsX0_putKey) := goodIn_app (goodIn_of _ (by decide +kernel)) ggX4_simulateOne_X0_putKey
theorem dX4_simulateOne_0 : decode cX4_simulateOne 0 = .ok (.aload_n 0, 1) := by decide +kernel
theorem dX4_simulateOne_1 : decode cX4_simulateOne 1 = .ok (.getfield 23, 3) := by decide +kernel
theorem dX4_simulateOne_4 : decode cX4_simulateOne 4 = .ok (.getfield 91, 3) := by decide +kernel
theorem dX4_simulateOne_7 : decode cX4_simulateOne 7 = .ok (.istore_n 2, 1) := by decide +kernel
theorem dX4_simulateOne_8 : decode cX4_simulateOne 8 = .ok (.iload_n 2, 1) := by decide +kernel
theorem dX4_simulateOne_9 : decode cX4_simulateOne 9 = .ok (.ifCond .le 12, 3) := by decide +kernel
theorem dX4_simulateOne_12 : decode cX4_simulateOne 12 = .ok (.iload_n 1, 1) := by decide +kernel
theorem dX4_simulateOne_13 : decode cX4_simulateOne 13 = .ok (.bipush 8, 2) := by decide +kernel
theorem dX4_simulateOne_15 : decode cX4_simulateOne 15 = .ok (.idiv, 1) := by decide +kernel
theorem dX4_simulateOne_16 : decode cX4_simulateOne 16 = .ok (.iload_n 2, 1) := by decide +kernel
theorem dX4_simulateOne_17 : decode cX4_simulateOne 17 = .ok (.irem, 1) := by decide +kernel
theorem dX4_simulateOne_18 : decode cX4_simulateOne 18 = .ok (.goto 4, 3) := by decide +kernel
theorem dX4_simulateOne_21 : decode cX4_simulateOne 21 = .ok (.iconst 0, 1) := by decide +kernel
theorem dX4_simulateOne_22 : decode cX4_simulateOne 22 = .ok (.istore_n 3, 1) := by decide +kernel
theorem dX4_simulateOne_23 : decode cX4_simulateOne 23 = .ok (.iload_n 3, 1) := by decide +kernel
theorem dX4_simulateOne_24 : decode cX4_simulateOne 24 = .ok (.aload_n 0, 1) := by decide +kernel
theorem dX4_simulateOne_25 : decode cX4_simulateOne 25 = .ok (.getfield 23, 3) := by decide +kernel
theorem dX4_simulateOne_28 : decode cX4_simulateOne 28 = .ok (.getfield 98, 3) := by decide +kernel
theorem dX4_simulateOne_31 : decode cX4_simulateOne 31 = .ok (.iadd, 1) := by decide +kernel
theorem dX4_simulateOne_32 : decode cX4_simulateOne 32 = .ok (.iconst 1, 1) := by decide +kernel
theorem dX4_simulateOne_33 : decode cX4_simulateOne 33 = .ok (.isub, 1) := by decide +kernel
theorem dX4_simulateOne_34 : decode cX4_simulateOne 34 = .ok (.iload_n 1, 1) := by decide +kernel
theorem dX4_simulateOne_35 : decode cX4_simulateOne 35 = .ok (.sipush 512, 3) := by decide +kernel
theorem dX4_simulateOne_38 : decode cX4_simulateOne 38 = .ok (.idiv, 1) := by decide +kernel
theorem dX4_simulateOne_39 : decode cX4_simulateOne 39 = .ok (.bipush 8, 2) := by decide +kernel
theorem dX4_simulateOne_41 : decode cX4_simulateOne 41 = .ok (.irem, 1) := by decide +kernel
theorem dX4_simulateOne_42 : decode cX4_simulateOne 42 = .ok (.iadd, 1) := by decide +kernel
theorem dX4_simulateOne_43 : decode cX4_simulateOne 43 = .ok (.istore 4, 2) := by decide +kernel
theorem dX4_simulateOne_45 : decode cX4_simulateOne 45 = .ok (.iload 4, 2) := by decide +kernel
theorem dX4_simulateOne_47 : decode cX4_simulateOne 47 = .ok (.iload_n 2, 1) := by decide +kernel
theorem dX4_simulateOne_48 : decode cX4_simulateOne 48 = .ok (.if_icmp .ge 17, 3) := by decide +kernel
theorem dX4_simulateOne_51 : decode cX4_simulateOne 51 = .ok (.aload_n 0, 1) := by decide +kernel
theorem dX4_simulateOne_52 : decode cX4_simulateOne 52 = .ok (.getfield 23, 3) := by decide +kernel
theorem dX4_simulateOne_55 : decode cX4_simulateOne 55 = .ok (.iload_n 3, 1) := by decide +kernel
theorem dX4_simulateOne_56 : decode cX4_simulateOne 56 = .ok (.iload 4, 2) := by decide +kernel
theorem dX4_simulateOne_58 : decode cX4_simulateOne 58 = .ok (.invokevirtual 184, 3) := by decide +kernel
theorem dX4_simulateOne_61 : decode cX4_simulateOne 61 = .ok (.pop, 1) := by decide +kernel
theorem dX4_simulateOne_62 : decode cX4_simulateOne 62 = .ok (.goto 35, 3) := by decide +kernel
theorem dX4_simulateOne_65 : decode cX4_simulateOne 65 = .ok (.iload_n 1, 1) := by decide +kernel
theorem dX4_simulateOne_66 : decode cX4_simulateOne 66 = .ok (.bipush 8, 2) := by decide +kernel
theorem dX4_simulateOne_68 : decode cX4_simulateOne 68 = .ok (.irem, 1) := by decide +kernel
theorem dX4_simulateOne_69 : decode cX4_simulateOne 69 = .ok (.ifCond .ne 28, 3) := by decide +kernel
theorem dX4_simulateOne_72 : decode cX4_simulateOne 72 = .ok (.aload_n 0, 1) := by decide +kernel
theorem dX4_simulateOne_73 : decode cX4_simulateOne 73 = .ok (.getfield 23, 3) := by decide +kernel
theorem dX4_simulateOne_76 : decode cX4_simulateOne 76 = .ok (.iload_n 3, 1) := by decide +kernel
theorem dX4_simulateOne_77 : decode cX4_simulateOne 77 = .ok (.aload_n 0, 1) := by decide +kernel
theorem dX4_simulateOne_78 : decode cX4_simulateOne 78 = .ok (.getfield 23, 3) := by decide +kernel
theorem dX4_simulateOne_81 : decode cX4_simulateOne 81 = .ok (.iload_n 3, 1) := by decide +kernel
theorem dX4_simulateOne_82 : decode cX4_simulateOne 82 = .ok (.invokevirtual 131, 3) := by decide +kernel
theorem dX4_simulateOne_85 : decode cX4_simulateOne 85 = .ok (.ifCond .ne 7, 3) := by decide +kernel
theorem dX4_simulateOne_88 : decode cX4_simulateOne 88 = .ok (.iconst 1, 1) := by decide +kernel
theorem dX4_simulateOne_89 : decode cX4_simulateOne 89 = .ok (.goto 4, 3) := by decide +kernel
theorem dX4_simulateOne_92 : decode cX4_simulateOne 92 = .ok (.iconst 0, 1) := by decide +kernel
theorem dX4_simulateOne_93 : decode cX4_simulateOne 93 = .ok (.invokevirtual 166, 3) := by decide +kernel
theorem dX4_simulateOne_96 : decode cX4_simulateOne 96 = .ok (.pop, 1) := by decide +kernel
theorem dX4_simulateOne_97 : decode cX4_simulateOne 97 = .ok (.return_, 1) := by decide +kernel
set_option maxRecDepth 20000 in
theorem ggX5_init_X5_renew : GoodIn wsX5_init wsX5_renew := goodIn_r _ [17, 5, 18, 19, 20, 21, 22, 23, 24, 25, 26, 27, 28] (by decide +kernel) (by decide +kernel)
set_option maxRecDepth 20000 in
theorem gX5_init_X5_renew : GoodIn wsX5_init (wsV RX5 34 RX5 yX5_renew wsX5_renew) := goodIn_app (goodIn_of _ (by decide +kernel)) ggX5_init_X5_renew
