theorem dX3_init_0 : decode cX3_init 0 = .ok (.aload_n 0, 1) := by decide +kernel
theorem dX3_init_1 : decode cX3_init 1 = .ok (.invokespecial 3, 3) := by decide +kernel
theorem dX3_init_4 : decode cX3_init 4 = .ok (.aload_n 0, 1) := by decide +kernel
theorem dX3_init_5 : decode cX3_init 5 = .ok (.bipush 100, 2) := by decide +kernel
theorem dX3_init_7 : decode cX3_init 7 = .ok (.newarray .char, 2) := by decide +kernel
theorem dX3_init_9 : decode cX3_init 9 = .ok (.putfield 9, 3) := by decide +kernel
theorem dX3_init_12 : decode cX3_init 12 = .ok (.return_, 1) := by decide +kernel
theorem dX3_isFull_0 : decode cX3_isFull 0 = .ok (.aload_n 0, 1) := by decide +kernel
theorem dX3_isFull_1 : decode cX3_isFull 1 = .ok (.getfield 15, 3) := by decide +kernel
theorem dX3_isFull_4 : decode cX3_isFull 4 = .ok (.aload_n 0, 1) := by decide +kernel
theorem dX3_isFull_5 : decode cX3_isFull 5 = .ok (.getfield 9, 3) := by decide +kernel
theorem dX3_isFull_8 : decode cX3_isFull 8 = .ok (.arraylength, 1) := by decide +kernel
theorem dX3_isFull_9 : decode cX3_isFull 9 = .ok (.if_icmp .lt 7, 3) := by decide +kernel
theorem dX3_isFull_12 : decode cX3_isFull 12 = .ok (.iconst 1, 1) := by decide +kernel
theorem dX3_isFull_13 : decode cX3_isFull 13 = .ok (.goto 4, 3) := by decide +kernel
theorem dX3_isFull_16 : decode cX3_isFull 16 = .ok (.iconst 0, 1) := by decide +kernel
theorem dX3_isFull_17 : decode cX3_isFull 17 = .ok (.ireturn, 1) := by decide +kernel
theorem dX3_add_0 : decode cX3_add 0 = .ok (.aload_n 0, 1) := by decide +kernel
theorem dX3_add_1 : decode cX3_add 1 = .ok (.getfield 15, 3) := by decide +kernel
theorem dX3_add_4 : decode cX3_add 4 = .ok (.ifCond .lt 35, 3) := by decide +kernel
theorem dX3_add_7 : decode cX3_add 7 = .ok (.aload_n 0, 1) := by decide +kernel
theorem dX3_add_8 : decode cX3_add 8 = .ok (.getfield 15, 3) := by decide +kernel
theorem dX3_add_11 : decode cX3_add 11 = .ok (.aload_n 0, 1) := by decide +kernel
theorem dX3_add_12 : decode cX3_add 12 = .ok (.getfield 9, 3) := by decide +kernel
theorem dX3_add_15 : decode cX3_add 15 = .ok (.arraylength, 1) := by decide +kernel
theorem dX3_add_16 : decode cX3_add 16 = .ok (.if_icmp .ge 23, 3) := by decide +kernel
theorem dX3_add_19 : decode cX3_add 19 = .ok (.aload_n 0, 1) := by decide +kernel
theorem dX3_add_20 : decode cX3_add 20 = .ok (.getfield 9, 3) := by decide +kernel
theorem dX3_add_23 : decode cX3_add 23 = .ok (.aload_n 0, 1) := by decide +kernel
theorem dX3_add_24 : decode cX3_add 24 = .ok (.getfield 15, 3) := by decide +kernel
theorem dX3_add_27 : decode cX3_add 27 = .ok (.iload_n 1, 1) := by decide +kernel
theorem dX3_add_28 : decode cX3_add 28 = .ok (.castore, 1) := by decide +kernel
theorem dX3_add_29 : decode cX3_add 29 = .ok (.aload_n 0, 1) := by decide +kernel
theorem dX3_add_30 : decode cX3_add 30 = .ok (.dup, 1) := by decide +kernel
theorem dX3_add_31 : decode cX3_add 31 = .ok (.getfield 15, 3) := by decide +kernel
theorem dX3_add_34 : decode cX3_add 34 = .ok (.iconst 1, 1) := by decide +kernel
theorem dX3_add_35 : decode cX3_add 35 = .ok (.iadd, 1) := by decide +kernel
theorem dX3_add_36 : decode cX3_add 36 = .ok (.putfield 15, 3) := by decide +kernel
theorem dX3_add_39 : decode cX3_add 39 = .ok (.aload_n 0, 1) := by decide +kernel
theorem dX3_add_40 : decode cX3_add 40 = .ok (.getfield 15, 3) := by decide +kernel
theorem dX3_add_43 : decode cX3_add 43 = .ok (.ireturn, 1) := by decide +kernel
theorem dX3_empty_0 : decode cX3_empty 0 = .ok (.aload_n 0, 1) := by decide +kernel
theorem dX3_empty_1 : decode cX3_empty 1 = .ok (.getfield 15, 3) := by decide +kernel
theorem dX3_empty_4 : decode cX3_empty 4 = .ok (.istore_n 1, 1) := by decide +kernel
theorem dX3_empty_5 : decode cX3_empty 5 = .ok (.aload_n 0, 1) := by decide +kernel
theorem dX3_empty_6 : decode cX3_empty 6 = .ok (.iconst 0, 1) := by decide +kernel
theorem dX3_empty_7 : decode cX3_empty 7 = .ok (.putfield 15, 3) := by decide +kernel
theorem dX3_empty_10 : decode cX3_empty 10 = .ok (.iload_n 1, 1) := by decide +kernel
theorem dX3_empty_11 : decode cX3_empty 11 = .ok (.ireturn, 1) := by decide +kernel
theorem dX3_position_0 : decode cX3_position 0 = .ok (.aload_n 0, 1) := by decide +kernel
theorem dX3_position_1 : decode cX3_position 1 = .ok (.getfield 19, 3) := by decide +kernel
theorem dX3_position_4 : decode cX3_position 4 = .ok (.ireturn, 1) := by decide +kernel
theorem dX3_questionsLeftOut_0 : decode cX3_questionsLeftOut 0 = .ok (.aload_n 0, 1) := by decide +kernel
theorem dX3_questionsLeftOut_1 : decode cX3_questionsLeftOut 1 = .ok (.getfield 22, 3) := by decide +kernel
theorem dX3_questionsLeftOut_4 : decode cX3_questionsLeftOut 4 = .ok (.ireturn, 1) := by decide +kernel
set_option maxRecDepth 20000 in
theorem ggX3_readInto_X3_sign : GoodIn wsX3_readInto wsX3_sign := goodIn_r _ [8, 1, 3, 9, 117, 118, 119, 120] (by decide +kernel) (by decide +kernel)
set_option maxRecDepth 20000 in
theorem gX3_readInto_X3_sign : GoodIn wsX3_readInto (wsV RX3 25 RX3 yX3_sign wsX3_sign) := goodIn_app (goodIn_of _ (by decide +kernel)) ggX3_readInto_X3_sign
set_option maxRecDepth 20000 in
theorem ggX3_readInto_X3_readNumber : GoodIn wsX3_readInto wsX3_readNumber := goodIn_r _ [13, 14, 15, 16, 17, 18, 19, 20, 21, 22, 23, 7, 24, 1, 4, 5, 6, 8, 3, 9, 117, 118, 119, 120] (by decide +kernel) (by decide +kernel)
set_option maxRecDepth 20000 in
theorem gX3_readInto_X3_readNumber : GoodIn wsX3_readInto (wsV RX3 29 RX3 yX3_readNumber wsX3_readNumber) := goodIn_app (goodIn_of _ (by decide +kernel)) ggX3_readInto_X3_readNumber
set_option maxRecDepth 20000 in
theorem ggX3_readInto_X0_makeNew : GoodIn wsX3_readInto wsX0_makeNew := goodIn_r _ [29, 30, 31, 32, 33, 34, 35, 36, 37, 38, 121, 122, 123, 124, 125, 126, 127, 128, 129, 130] (by decide +kernel) (by decide +kernel)
set_option maxRecDepth 20000 in
theorem gX3_readInto_X0_makeNew : GoodIn wsX3_readInto (wsV RX3 33 RX0 yX0_makeNew wsX0_makeNew) := goodIn_app (goodIn_of _ (by decide +kernel)) ggX3_readInto_X0_makeNew
set_option maxRecDepth 20000 in
theorem ggX3_readInto_X3_readCommand : GoodIn wsX3_readInto wsX3_readCommand := goodIn_r _ [42, 4, 5, 6, 7, 8, 1, 3, 9, 43, 44, 45, 46, 47, 10, 11, 12, 13, 14, 15, 16, 17, 18, 19, 20, 21, 22, 23, 24, 48, 49, 50, 28, 51, 38, 34, 52, 53, 54, 55, 56, 57, 58, 59, 60, 61, 62, 63, 64, 65, 37, 66, 67, 68, 69, 70, 71, 72, 73, 31, 32, 33, 74, 75, 76, 77, 78, 79, 80, 81, 2, 82, 83, 84, 85, 86, 87, 88, 89, 35, 36, 90, 91, 92, 93, 94, 95, 96, 97, 98, 99, 100, 101, 102, 103, 104, 105, 106, 107, 108, 109, 110, 111, 112, 113, 114, 115, 116, 117, 118, 119, 120, 121, 122, 123, 124, 125, 126, 127, 128, 129, 130] (by decide +kernel) (by decide +kernel)
set_option maxRecDepth 20000 in
theorem gX3_readInto_X3_readCommand : GoodIn wsX3_readInto (wsV RX3 39 RX3 yX3_readCommand wsX3_readCommand) := goodIn_app (goodIn_of _ (by decide +kernel)) ggX3_readInto_X3_readCommand
theorem dX3_readInto_0 : decode cX3_readInto 0 = .ok (.aload_n 0, 1) := by decide +kernel
theorem dX3_readInto_1 : decode cX3_readInto 1 = .ok (.iconst 0, 1) := by decide +kernel
theorem dX3_readInto_2 : decode cX3_readInto 2 = .ok (.putfield 19, 3) := by decide +kernel
theorem dX3_readInto_5 : decode cX3_readInto 5 = .ok (.aload_n 0, 1) := by decide +kernel
theorem dX3_readInto_6 : decode cX3_readInto 6 = .ok (.iconst 0, 1) := by decide +kernel
theorem dX3_readInto_7 : decode cX3_readInto 7 = .ok (.putfield 22, 3) := by decide +kernel
theorem dX3_readInto_10 : decode cX3_readInto 10 = .ok (.aload_n 0, 1) := by decide +kernel
theorem dX3_readInto_11 : decode cX3_readInto 11 = .ok (.invokevirtual 25, 3) := by decide +kernel
theorem dX3_readInto_14 : decode cX3_readInto 14 = .ok (.bipush 75, 2) := by decide +kernel
theorem dX3_readInto_16 : decode cX3_readInto 16 = .ok (.if_icmp .eq 5, 3) := by decide +kernel
theorem dX3_readInto_19 : decode cX3_readInto 19 = .ok (.iconst 0, 1) := by decide +kernel
theorem dX3_readInto_20 : decode cX3_readInto 20 = .ok (.ireturn, 1) := by decide +kernel
theorem dX3_readInto_21 : decode cX3_readInto 21 = .ok (.aload_n 0, 1) := by decide +kernel
theorem dX3_readInto_22 : decode cX3_readInto 22 = .ok (.dup, 1) := by decide +kernel
theorem dX3_readInto_23 : decode cX3_readInto 23 = .ok (.getfield 19, 3) := by decide +kernel
theorem dX3_readInto_26 : decode cX3_readInto 26 = .ok (.iconst 1, 1) := by decide +kernel
theorem dX3_readInto_27 : decode cX3_readInto 27 = .ok (.iadd, 1) := by decide +kernel
theorem dX3_readInto_28 : decode cX3_readInto 28 = .ok (.putfield 19, 3) := by decide +kernel
theorem dX3_readInto_31 : decode cX3_readInto 31 = .ok (.aload_n 0, 1) := by decide +kernel
theorem dX3_readInto_32 : decode cX3_readInto 32 = .ok (.bipush 8, 2) := by decide +kernel
theorem dX3_readInto_34 : decode cX3_readInto 34 = .ok (.bipush 40, 2) := by decide +kernel
theorem dX3_readInto_36 : decode cX3_readInto 36 = .ok (.invokevirtual 29, 3) := by decide +kernel
theorem dX3_readInto_39 : decode cX3_readInto 39 = .ok (.istore_n 2, 1) := by decide +kernel
theorem dX3_readInto_40 : decode cX3_readInto 40 = .ok (.iload_n 2, 1) := by decide +kernel
theorem dX3_readInto_41 : decode cX3_readInto 41 = .ok (.iconst (-1), 1) := by decide +kernel
theorem dX3_readInto_42 : decode cX3_readInto 42 = .ok (.if_icmp .ne 5, 3) := by decide +kernel
theorem dX3_readInto_45 : decode cX3_readInto 45 = .ok (.iconst 0, 1) := by decide +kernel
theorem dX3_readInto_46 : decode cX3_readInto 46 = .ok (.ireturn, 1) := by decide +kernel
theorem dX3_readInto_47 : decode cX3_readInto 47 = .ok (.aload_n 1, 1) := by decide +kernel
theorem dX3_readInto_48 : decode cX3_readInto 48 = .ok (.iload_n 2, 1) := by decide +kernel
theorem dX3_readInto_49 : decode cX3_readInto 49 = .ok (.invokevirtual 33, 3) := by decide +kernel
theorem dX3_readInto_52 : decode cX3_readInto 52 = .ok (.iconst 0, 1) := by decide +kernel
theorem dX3_readInto_53 : decode cX3_readInto 53 = .ok (.istore_n 3, 1) := by decide +kernel
theorem dX3_readInto_54 : decode cX3_readInto 54 = .ok (.iload_n 3, 1) := by decide +kernel
theorem dX3_readInto_55 : decode cX3_readInto 55 = .ok (.bipush 100, 2) := by decide +kernel
theorem dX3_readInto_57 : decode cX3_readInto 57 = .ok (.if_icmp .ge 30, 3) := by decide +kernel
theorem dX3_readInto_60 : decode cX3_readInto 60 = .ok (.aload_n 0, 1) := by decide +kernel
theorem dX3_readInto_61 : decode cX3_readInto 61 = .ok (.getfield 19, 3) := by decide +kernel
theorem dX3_readInto_64 : decode cX3_readInto 64 = .ok (.aload_n 0, 1) := by decide +kernel
theorem dX3_readInto_65 : decode cX3_readInto 65 = .ok (.getfield 15, 3) := by decide +kernel
theorem dX3_readInto_68 : decode cX3_readInto 68 = .ok (.if_icmp .ge 19, 3) := by decide +kernel
theorem dX3_readInto_71 : decode cX3_readInto 71 = .ok (.aload_n 0, 1) := by decide +kernel
theorem dX3_readInto_72 : decode cX3_readInto 72 = .ok (.aload_n 1, 1) := by decide +kernel
theorem dX3_readInto_73 : decode cX3_readInto 73 = .ok (.invokevirtual 39, 3) := by decide +kernel
theorem dX3_readInto_76 : decode cX3_readInto 76 = .ok (.ifCond .ne 5, 3) := by decide +kernel
theorem dX3_readInto_79 : decode cX3_readInto 79 = .ok (.iconst 0, 1) := by decide +kernel
theorem dX3_readInto_80 : decode cX3_readInto 80 = .ok (.ireturn, 1) := by decide +kernel
theorem dX3_readInto_81 : decode cX3_readInto 81 = .ok (.iinc 3 1, 3) := by decide +kernel
theorem dX3_readInto_84 : decode cX3_readInto 84 = .ok (.goto (-30), 3) := by decide +kernel
theorem dX3_readInto_87 : decode cX3_readInto 87 = .ok (.iconst 1, 1) := by decide +kernel
theorem dX3_readInto_88 : decode cX3_readInto 88 = .ok (.ireturn, 1) := by decide +kernel
set_option maxRecDepth 20000 in
theorem ggX3_readCommand_X3_sign : GoodIn wsX3_readCommand wsX3_sign := goodIn_r _ [5, 6, 7, 8, 108, 109, 110, 111] (by decide +kernel) (by decide +kernel)
set_option maxRecDepth 20000 in
theorem gX3_readCommand_X3_sign : GoodIn wsX3_readCommand (wsV RX3 25 RX3 yX3_sign wsX3_sign) := goodIn_app (goodIn_of _ (by decide +kernel)) ggX3_readCommand_X3_sign
set_option maxRecDepth 20000 in
theorem ggX3_readCommand_X3_readKey : GoodIn wsX3_readCommand wsX3_readKey := goodIn_r _ [12, 6, 13, 14, 15, 16, 4, 17, 18, 19, 20, 21, 22, 23, 24, 25, 26, 27, 28, 1, 2, 3, 5, 7, 8, 29, 30, 31, 32, 33, 34, 35, 36, 37, 38, 39, 40, 41, 42, 43, 44, 45, 46, 47, 48, 49, 50, 108, 109, 110, 111, 112, 113, 114, 115, 116, 117, 118, 119, 120, 121] (by decide +kernel) (by decide +kernel)
set_option maxRecDepth 20000 in
theorem gX3_readCommand_X3_readKey : GoodIn wsX3_readCommand (wsV RX3 43 RX3 yX3_readKey wsX3_readKey) := goodIn_app (goodIn_of _ (by decide +kernel)) ggX3_readCommand_X3_readKey
set_option maxRecDepth 20000 in
theorem ggX3_readCommand_X3_readSetting : GoodIn wsX3_readCommand wsX3_readSetting := goodIn_r _ [54, 6, 25, 26, 27, 4, 28, 1, 2, 3, 5, 7, 8, 55, 56, 57, 32, 58, 59, 60, 61, 62, 63, 64, 65, 50, 35, 108, 109, 110, 111, 112, 113, 114, 115, 116, 117, 118, 119, 120, 121] (by decide +kernel) (by decide +kernel)
set_option maxRecDepth 20000 in
theorem gX3_readCommand_X3_readSetting : GoodIn wsX3_readCommand (wsV RX3 46 RX3 yX3_readSetting wsX3_readSetting) := goodIn_app (goodIn_of _ (by decide +kernel)) ggX3_readCommand_X3_readSetting
set_option maxRecDepth 20000 in
theorem ggX3_readCommand_X3_readQuestion : GoodIn wsX3_readCommand wsX3_readQuestion := goodIn_r _ [69, 6, 13, 70, 14, 15, 16, 4, 17, 18, 19, 20, 21, 22, 23, 24, 25, 26, 27, 28, 1, 2, 3, 5, 7, 8, 71, 72, 73, 32, 74, 59, 75, 76, 77, 78, 79, 80, 81, 82, 83, 84, 34, 60, 85, 86, 87, 88, 89, 90, 91, 92, 93, 94, 95, 35, 40, 41, 42, 43, 44, 96, 97, 98, 99, 61, 100, 101, 102, 103, 45, 46, 47, 48, 49, 50, 104, 105, 106, 107, 108, 109, 110, 111, 112, 113, 114, 115, 116, 117, 118, 119, 120, 121] (by decide +kernel) (by decide +kernel)
set_option maxRecDepth 20000 in
theorem gX3_readCommand_X3_readQuestion : GoodIn wsX3_readCommand (wsV RX3 50 RX3 yX3_readQuestion wsX3_readQuestion) := goodIn_app (goodIn_of _ (by decide +kernel)) ggX3_readCommand_X3_readQuestion
theorem dX3_readCommand_0 : decode cX3_readCommand 0 = .ok (.aload_n 0, 1) := by decide +kernel
theorem dX3_readCommand_1 : decode cX3_readCommand 1 = .ok (.invokevirtual 25, 3) := by decide +kernel
theorem dX3_readCommand_4 : decode cX3_readCommand 4 = .ok (.lookupswitch 93 #[(102, 77), (107, 52), (113, 87), (115, 68), (119, 58)], 52) := by decide +kernel
theorem dX3_readCommand_56 : decode cX3_readCommand 56 = .ok (.aload_n 0, 1) := by decide +kernel
theorem dX3_readCommand_57 : decode cX3_readCommand 57 = .ok (.aload_n 1, 1) := by decide +kernel
theorem dX3_readCommand_58 : decode cX3_readCommand 58 = .ok (.invokevirtual 43, 3) := by decide +kernel
theorem dX3_readCommand_61 : decode cX3_readCommand 61 = .ok (.ireturn, 1) := by decide +kernel
theorem dX3_readCommand_62 : decode cX3_readCommand 62 = .ok (.aload_n 0, 1) := by decide +kernel
theorem dX3_readCommand_63 : decode cX3_readCommand 63 = .ok (.aload_n 1, 1) := by decide +kernel
theorem dX3_readCommand_64 : decode cX3_readCommand 64 = .ok (.iconst 0, 1) := by decide +kernel
theorem dX3_readCommand_65 : decode cX3_readCommand 65 = .ok (.iconst 1, 1) := by decide +kernel
theorem dX3_readCommand_66 : decode cX3_readCommand 66 = .ok (.bipush 8, 2) := by decide +kernel
theorem dX3_readCommand_68 : decode cX3_readCommand 68 = .ok (.invokevirtual 46, 3) := by decide +kernel
theorem dX3_readCommand_71 : decode cX3_readCommand 71 = .ok (.ireturn, 1) := by decide +kernel
theorem dX3_readCommand_72 : decode cX3_readCommand 72 = .ok (.aload_n 0, 1) := by decide +kernel
theorem dX3_readCommand_73 : decode cX3_readCommand 73 = .ok (.aload_n 1, 1) := by decide +kernel
theorem dX3_readCommand_74 : decode cX3_readCommand 74 = .ok (.iconst 1, 1) := by decide +kernel
theorem dX3_readCommand_75 : decode cX3_readCommand 75 = .ok (.iconst 0, 1) := by decide +kernel
theorem dX3_readCommand_76 : decode cX3_readCommand 76 = .ok (.iconst 4, 1) := by decide +kernel
theorem dX3_readCommand_77 : decode cX3_readCommand 77 = .ok (.invokevirtual 46, 3) := by decide +kernel
theorem dX3_readCommand_80 : decode cX3_readCommand 80 = .ok (.ireturn, 1) := by decide +kernel
theorem dX3_readCommand_81 : decode cX3_readCommand 81 = .ok (.aload_n 0, 1) := by decide +kernel
theorem dX3_readCommand_82 : decode cX3_readCommand 82 = .ok (.aload_n 1, 1) := by decide +kernel
theorem dX3_readCommand_83 : decode cX3_readCommand 83 = .ok (.iconst 2, 1) := by decide +kernel
theorem dX3_readCommand_84 : decode cX3_readCommand 84 = .ok (.iconst 0, 1) := by decide +kernel
theorem dX3_readCommand_85 : decode cX3_readCommand 85 = .ok (.bipush 9, 2) := by decide +kernel
theorem dX3_readCommand_87 : decode cX3_readCommand 87 = .ok (.invokevirtual 46, 3) := by decide +kernel
theorem dX3_readCommand_90 : decode cX3_readCommand 90 = .ok (.ireturn, 1) := by decide +kernel
theorem dX3_readCommand_91 : decode cX3_readCommand 91 = .ok (.aload_n 0, 1) := by decide +kernel
theorem dX3_readCommand_92 : decode cX3_readCommand 92 = .ok (.aload_n 1, 1) := by decide +kernel
theorem dX3_readCommand_93 : decode cX3_readCommand 93 = .ok (.invokevirtual 50, 3) := by decide +kernel
theorem dX3_readCommand_96 : decode cX3_readCommand 96 = .ok (.ireturn, 1) := by decide +kernel
theorem dX3_readCommand_97 : decode cX3_readCommand 97 = .ok (.iconst 0, 1) := by decide +kernel
theorem dX3_readCommand_98 : decode cX3_readCommand 98 = .ok (.ireturn, 1) := by decide +kernel
set_option maxRecDepth 20000 in
theorem ggX3_readKey_X3_readNumber : GoodIn wsX3_readKey wsX3_readNumber := goodIn_r _ [7, 8, 9, 10, 11, 12, 13, 14, 15, 16, 17, 6, 18, 1, 19, 20, 21, 22, 23, 24, 47, 48, 49, 50] (by decide +kernel) (by decide +kernel)
set_option maxRecDepth 20000 in
theorem gX3_readKey_X3_readNumber : GoodIn wsX3_readKey (wsV RX3 29 RX3 yX3_readNumber wsX3_readNumber) := goodIn_app (goodIn_of _ (by decide +kernel)) ggX3_readKey_X3_readNumber
set_option maxRecDepth 20000 in
theorem ggX3_readKey_X0_putKey : GoodIn wsX3_readKey wsX0_putKey := goodIn_r _ [29, 30, 31, 32, 33, 34, 28, 35, 36, 37, 38, 39, 40, 41, 42, 43, 44, 45, 9, 10, 11, 46, 51, 52, 53, 54, 55, 56, 57, 58, 59, 60] (by decide +kernel) (by decide +kernel)
set_option maxRecDepth 20000 in
theorem gX3_readKey_X0_putKey : GoodIn wsX3_readKey (wsV RX3 56 RX0 yX0_putKey wsX0_putKey) := goodIn_app (goodIn_of _ (by decide +kernel)) ggX3_readKey_X0_putKey
theorem dX3_readKey_0 : decode cX3_readKey 0 = .ok (.aload_n 0, 1) := by decide +kernel
theorem dX3_readKey_1 : decode cX3_readKey 1 = .ok (.dup, 1) := by decide +kernel
theorem dX3_readKey_2 : decode cX3_readKey 2 = .ok (.getfield 19, 3) := by decide +kernel
theorem dX3_readKey_5 : decode cX3_readKey 5 = .ok (.iconst 1, 1) := by decide +kernel
theorem dX3_readKey_6 : decode cX3_readKey 6 = .ok (.iadd, 1) := by decide +kernel
theorem dX3_readKey_7 : decode cX3_readKey 7 = .ok (.putfield 19, 3) := by decide +kernel
theorem dX3_readKey_10 : decode cX3_readKey 10 = .ok (.aload_n 0, 1) := by decide +kernel
theorem dX3_readKey_11 : decode cX3_readKey 11 = .ok (.iconst 0, 1) := by decide +kernel
theorem dX3_readKey_12 : decode cX3_readKey 12 = .ok (.aload_n 1, 1) := by decide +kernel
theorem dX3_readKey_13 : decode cX3_readKey 13 = .ok (.getfield 53, 3) := by decide +kernel
theorem dX3_readKey_16 : decode cX3_readKey 16 = .ok (.iconst 1, 1) := by decide +kernel
theorem dX3_readKey_17 : decode cX3_readKey 17 = .ok (.isub, 1) := by decide +kernel
theorem dX3_readKey_18 : decode cX3_readKey 18 = .ok (.invokevirtual 29, 3) := by decide +kernel
theorem dX3_readKey_21 : decode cX3_readKey 21 = .ok (.istore_n 2, 1) := by decide +kernel
theorem dX3_readKey_22 : decode cX3_readKey 22 = .ok (.iload_n 2, 1) := by decide +kernel
theorem dX3_readKey_23 : decode cX3_readKey 23 = .ok (.iconst (-1), 1) := by decide +kernel
theorem dX3_readKey_24 : decode cX3_readKey 24 = .ok (.if_icmp .ne 5, 3) := by decide +kernel
theorem dX3_readKey_27 : decode cX3_readKey 27 = .ok (.iconst 0, 1) := by decide +kernel
theorem dX3_readKey_28 : decode cX3_readKey 28 = .ok (.ireturn, 1) := by decide +kernel
theorem dX3_readKey_29 : decode cX3_readKey 29 = .ok (.aload_n 1, 1) := by decide +kernel
theorem dX3_readKey_30 : decode cX3_readKey 30 = .ok (.iload_n 2, 1) := by decide +kernel
theorem dX3_readKey_31 : decode cX3_readKey 31 = .ok (.iconst 1, 1) := by decide +kernel
theorem dX3_readKey_32 : decode cX3_readKey 32 = .ok (.invokevirtual 56, 3) := by decide +kernel
theorem dX3_readKey_35 : decode cX3_readKey 35 = .ok (.pop, 1) := by decide +kernel
theorem dX3_readKey_36 : decode cX3_readKey 36 = .ok (.iconst 1, 1) := by decide +kernel
theorem dX3_readKey_37 : decode cX3_readKey 37 = .ok (.ireturn, 1) := by decide +kernel
set_option maxRecDepth 20000 in
theorem ggX3_readSetting_X3_readDigit : GoodIn wsX3_readSetting wsX3_readDigit := goodIn_r _ [6, 1, 7, 8, 9, 5, 10, 11, 12, 27, 28, 29, 30] (by decide +kernel) (by decide +kernel)
set_option maxRecDepth 20000 in
theorem gX3_readSetting_X3_readDigit : GoodIn wsX3_readSetting (wsV RX3 60 RX3 yX3_readDigit wsX3_readDigit) := goodIn_app (goodIn_of _ (by decide +kernel)) ggX3_readSetting_X3_readDigit
set_option maxRecDepth 20000 in
theorem ggX3_readSetting_X0_change : GoodIn wsX3_readSetting wsX0_change := goodIn_r _ [17, 18, 19, 20, 21, 22, 23, 16, 24, 25, 26, 31, 32, 33, 34, 35, 36, 37, 38, 39, 40] (by decide +kernel) (by decide +kernel)
set_option maxRecDepth 20000 in
theorem gX3_readSetting_X0_change : GoodIn wsX3_readSetting (wsV RX3 63 RX0 yX0_change wsX0_change) := goodIn_app (goodIn_of _ (by decide +kernel)) ggX3_readSetting_X0_change
theorem dX3_readSetting_0 : decode cX3_readSetting 0 = .ok (.aload_n 0, 1) := by decide +kernel
theorem dX3_readSetting_1 : decode cX3_readSetting 1 = .ok (.dup, 1) := by decide +kernel
theorem dX3_readSetting_2 : decode cX3_readSetting 2 = .ok (.getfield 19, 3) := by decide +kernel
theorem dX3_readSetting_5 : decode cX3_readSetting 5 = .ok (.iconst 1, 1) := by decide +kernel
theorem dX3_readSetting_6 : decode cX3_readSetting 6 = .ok (.iadd, 1) := by decide +kernel
theorem dX3_readSetting_7 : decode cX3_readSetting 7 = .ok (.putfield 19, 3) := by decide +kernel
theorem dX3_readSetting_10 : decode cX3_readSetting 10 = .ok (.aload_n 0, 1) := by decide +kernel
theorem dX3_readSetting_11 : decode cX3_readSetting 11 = .ok (.iload_n 3, 1) := by decide +kernel
theorem dX3_readSetting_12 : decode cX3_readSetting 12 = .ok (.iload 4, 2) := by decide +kernel
theorem dX3_readSetting_14 : decode cX3_readSetting 14 = .ok (.invokevirtual 60, 3) := by decide +kernel
theorem dX3_readSetting_17 : decode cX3_readSetting 17 = .ok (.istore 5, 2) := by decide +kernel
theorem dX3_readSetting_19 : decode cX3_readSetting 19 = .ok (.iload 5, 2) := by decide +kernel
theorem dX3_readSetting_21 : decode cX3_readSetting 21 = .ok (.iconst (-1), 1) := by decide +kernel
theorem dX3_readSetting_22 : decode cX3_readSetting 22 = .ok (.if_icmp .ne 5, 3) := by decide +kernel
theorem dX3_readSetting_25 : decode cX3_readSetting 25 = .ok (.iconst 0, 1) := by decide +kernel
theorem dX3_readSetting_26 : decode cX3_readSetting 26 = .ok (.ireturn, 1) := by decide +kernel
theorem dX3_readSetting_27 : decode cX3_readSetting 27 = .ok (.aload_n 1, 1) := by decide +kernel
theorem dX3_readSetting_28 : decode cX3_readSetting 28 = .ok (.iload_n 2, 1) := by decide +kernel
theorem dX3_readSetting_29 : decode cX3_readSetting 29 = .ok (.iload 5, 2) := by decide +kernel
theorem dX3_readSetting_31 : decode cX3_readSetting 31 = .ok (.invokevirtual 63, 3) := by decide +kernel
theorem dX3_readSetting_34 : decode cX3_readSetting 34 = .ok (.pop, 1) := by decide +kernel
theorem dX3_readSetting_35 : decode cX3_readSetting 35 = .ok (.iconst 1, 1) := by decide +kernel
theorem dX3_readSetting_36 : decode cX3_readSetting 36 = .ok (.ireturn, 1) := by decide +kernel
set_option maxRecDepth 20000 in
theorem ggX3_readQuestion_X3_readNumber : GoodIn wsX3_readQuestion wsX3_readNumber := goodIn_r _ [8, 9, 10, 11, 12, 13, 14, 15, 16, 17, 18, 7, 19, 1, 20, 21, 22, 23, 24, 25, 80, 81, 82, 83] (by decide +kernel) (by decide +kernel)
set_option maxRecDepth 20000 in
theorem gX3_readQuestion_X3_readNumber : GoodIn wsX3_readQuestion (wsV RX3 29 RX3 yX3_readNumber wsX3_readNumber) := goodIn_app (goodIn_of _ (by decide +kernel)) ggX3_readQuestion_X3_readNumber
set_option maxRecDepth 20000 in
theorem ggX3_readQuestion_X0_isNarrow : GoodIn wsX3_readQuestion wsX0_isNarrow := goodIn_r _ [30, 31, 84, 85, 86, 87, 88, 89, 90, 91, 92, 93] (by decide +kernel) (by decide +kernel)
set_option maxRecDepth 20000 in
theorem gX3_readQuestion_X0_isNarrow : GoodIn wsX3_readQuestion (wsV RX3 66 RX0 yX0_isNarrow wsX0_isNarrow) := goodIn_app (goodIn_of _ (by decide +kernel)) ggX3_readQuestion_X0_isNarrow
set_option maxRecDepth 20000 in
theorem ggX3_readQuestion_X0_question : GoodIn wsX3_readQuestion wsX0_question := goodIn_r _ [35, 36, 37, 38, 39, 40, 29, 41, 42, 43, 44, 45, 46, 47, 48, 49, 50, 51, 52, 53, 54, 55, 56, 57, 58, 59, 60, 61, 62, 63, 64, 65, 66, 67, 68, 69, 70, 71, 72, 73, 74, 10, 11, 12, 75, 76, 77, 78, 79, 84, 85, 86, 87, 88, 89, 90, 91, 92, 93] (by decide +kernel) (by decide +kernel)
set_option maxRecDepth 20000 in
theorem gX3_readQuestion_X0_question : GoodIn wsX3_readQuestion (wsV RX3 70 RX0 yX0_question wsX0_question) := goodIn_app (goodIn_of _ (by decide +kernel)) ggX3_readQuestion_X0_question
theorem dX3_readQuestion_0 : decode cX3_readQuestion 0 = .ok (.aload_n 0, 1) := by decide +kernel
theorem dX3_readQuestion_1 : decode cX3_readQuestion 1 = .ok (.dup, 1) := by decide +kernel
theorem dX3_readQuestion_2 : decode cX3_readQuestion 2 = .ok (.getfield 19, 3) := by decide +kernel
theorem dX3_readQuestion_5 : decode cX3_readQuestion 5 = .ok (.iconst 1, 1) := by decide +kernel
theorem dX3_readQuestion_6 : decode cX3_readQuestion 6 = .ok (.iadd, 1) := by decide +kernel
theorem dX3_readQuestion_7 : decode cX3_readQuestion 7 = .ok (.putfield 19, 3) := by decide +kernel
theorem dX3_readQuestion_10 : decode cX3_readQuestion 10 = .ok (.aload_n 0, 1) := by decide +kernel
theorem dX3_readQuestion_11 : decode cX3_readQuestion 11 = .ok (.iconst 0, 1) := by decide +kernel
theorem dX3_readQuestion_12 : decode cX3_readQuestion 12 = .ok (.aload_n 1, 1) := by decide +kernel
theorem dX3_readQuestion_13 : decode cX3_readQuestion 13 = .ok (.getfield 53, 3) := by decide +kernel
theorem dX3_readQuestion_16 : decode cX3_readQuestion 16 = .ok (.iconst 1, 1) := by decide +kernel
theorem dX3_readQuestion_17 : decode cX3_readQuestion 17 = .ok (.isub, 1) := by decide +kernel
theorem dX3_readQuestion_18 : decode cX3_readQuestion 18 = .ok (.invokevirtual 29, 3) := by decide +kernel
theorem dX3_readQuestion_21 : decode cX3_readQuestion 21 = .ok (.istore_n 2, 1) := by decide +kernel
theorem dX3_readQuestion_22 : decode cX3_readQuestion 22 = .ok (.iload_n 2, 1) := by decide +kernel
theorem dX3_readQuestion_23 : decode cX3_readQuestion 23 = .ok (.iconst (-1), 1) := by decide +kernel
theorem dX3_readQuestion_24 : decode cX3_readQuestion 24 = .ok (.if_icmp .ne 5, 3) := by decide +kernel
theorem dX3_readQuestion_27 : decode cX3_readQuestion 27 = .ok (.iconst 0, 1) := by decide +kernel
theorem dX3_readQuestion_28 : decode cX3_readQuestion 28 = .ok (.ireturn, 1) := by decide +kernel
theorem dX3_readQuestion_29 : decode cX3_readQuestion 29 = .ok (.aload_n 0, 1) := by decide +kernel
theorem dX3_readQuestion_30 : decode cX3_readQuestion 30 = .ok (.iload_n 2, 1) := by decide +kernel
theorem dX3_readQuestion_31 : decode cX3_readQuestion 31 = .ok (.aload_n 1, 1) := by decide +kernel
theorem dX3_readQuestion_32 : decode cX3_readQuestion 32 = .ok (.getfield 53, 3) := by decide +kernel
theorem dX3_readQuestion_35 : decode cX3_readQuestion 35 = .ok (.iconst 1, 1) := by decide +kernel
theorem dX3_readQuestion_36 : decode cX3_readQuestion 36 = .ok (.isub, 1) := by decide +kernel
theorem dX3_readQuestion_37 : decode cX3_readQuestion 37 = .ok (.invokevirtual 29, 3) := by decide +kernel
theorem dX3_readQuestion_40 : decode cX3_readQuestion 40 = .ok (.istore_n 3, 1) := by decide +kernel
theorem dX3_readQuestion_41 : decode cX3_readQuestion 41 = .ok (.iload_n 3, 1) := by decide +kernel
theorem dX3_readQuestion_42 : decode cX3_readQuestion 42 = .ok (.iconst (-1), 1) := by decide +kernel
theorem dX3_readQuestion_43 : decode cX3_readQuestion 43 = .ok (.if_icmp .ne 5, 3) := by decide +kernel
theorem dX3_readQuestion_46 : decode cX3_readQuestion 46 = .ok (.iconst 0, 1) := by decide +kernel
theorem dX3_readQuestion_47 : decode cX3_readQuestion 47 = .ok (.ireturn, 1) := by decide +kernel
theorem dX3_readQuestion_48 : decode cX3_readQuestion 48 = .ok (.aload_n 1, 1) := by decide +kernel
theorem dX3_readQuestion_49 : decode cX3_readQuestion 49 = .ok (.iload_n 2, 1) := by decide +kernel
theorem dX3_readQuestion_50 : decode cX3_readQuestion 50 = .ok (.iload_n 3, 1) := by decide +kernel
theorem dX3_readQuestion_51 : decode cX3_readQuestion 51 = .ok (.invokevirtual 66, 3) := by decide +kernel
theorem dX3_readQuestion_54 : decode cX3_readQuestion 54 = .ok (.ifCond .eq 16, 3) := by decide +kernel
theorem dX3_readQuestion_57 : decode cX3_readQuestion 57 = .ok (.aload_n 0, 1) := by decide +kernel
theorem dX3_readQuestion_58 : decode cX3_readQuestion 58 = .ok (.dup, 1) := by decide +kernel
theorem dX3_readQuestion_59 : decode cX3_readQuestion 59 = .ok (.getfield 22, 3) := by decide +kernel
theorem dX3_readQuestion_62 : decode cX3_readQuestion 62 = .ok (.iconst 1, 1) := by decide +kernel
theorem dX3_readQuestion_63 : decode cX3_readQuestion 63 = .ok (.iadd, 1) := by decide +kernel
theorem dX3_readQuestion_64 : decode cX3_readQuestion 64 = .ok (.putfield 22, 3) := by decide +kernel
theorem dX3_readQuestion_67 : decode cX3_readQuestion 67 = .ok (.goto 10, 3) := by decide +kernel
theorem dX3_readQuestion_70 : decode cX3_readQuestion 70 = .ok (.aload_n 1, 1) := by decide +kernel
theorem dX3_readQuestion_71 : decode cX3_readQuestion 71 = .ok (.iload_n 2, 1) := by decide +kernel
theorem dX3_readQuestion_72 : decode cX3_readQuestion 72 = .ok (.iload_n 3, 1) := by decide +kernel
theorem dX3_readQuestion_73 : decode cX3_readQuestion 73 = .ok (.invokevirtual 70, 3) := by decide +kernel
theorem dX3_readQuestion_76 : decode cX3_readQuestion 76 = .ok (.pop, 1) := by decide +kernel
theorem dX3_readQuestion_77 : decode cX3_readQuestion 77 = .ok (.iconst 1, 1) := by decide +kernel
theorem dX3_readQuestion_78 : decode cX3_readQuestion 78 = .ok (.ireturn, 1) := by decide +kernel
set_option maxRecDepth 20000 in
theorem ggX3_readNumber_X3_readDigit : GoodIn wsX3_readNumber wsX3_readDigit := goodIn_r _ [12, 13, 14, 15, 16, 11, 17, 18, 19, 20, 21, 22, 23] (by decide +kernel) (by decide +kernel)
set_option maxRecDepth 20000 in
theorem gX3_readNumber_X3_readDigit : GoodIn wsX3_readNumber (wsV RX3 60 RX3 yX3_readDigit wsX3_readDigit) := goodIn_app (goodIn_of _ (by decide +kernel)) ggX3_readNumber_X3_readDigit
theorem dX3_readNumber_0 : decode cX3_readNumber 0 = .ok (.aload_n 0, 1) := by decide +kernel
theorem dX3_readNumber_1 : decode cX3_readNumber 1 = .ok (.iload_n 1, 1) := by decide +kernel
theorem dX3_readNumber_2 : decode cX3_readNumber 2 = .ok (.bipush 10, 2) := by decide +kernel
theorem dX3_readNumber_4 : decode cX3_readNumber 4 = .ok (.idiv, 1) := by decide +kernel
theorem dX3_readNumber_5 : decode cX3_readNumber 5 = .ok (.iload_n 2, 1) := by decide +kernel
theorem dX3_readNumber_6 : decode cX3_readNumber 6 = .ok (.bipush 10, 2) := by decide +kernel
theorem dX3_readNumber_8 : decode cX3_readNumber 8 = .ok (.idiv, 1) := by decide +kernel
theorem dX3_readNumber_9 : decode cX3_readNumber 9 = .ok (.invokevirtual 60, 3) := by decide +kernel
theorem dX3_readNumber_12 : decode cX3_readNumber 12 = .ok (.istore_n 3, 1) := by decide +kernel
theorem dX3_readNumber_13 : decode cX3_readNumber 13 = .ok (.iload_n 3, 1) := by decide +kernel
theorem dX3_readNumber_14 : decode cX3_readNumber 14 = .ok (.iconst (-1), 1) := by decide +kernel
theorem dX3_readNumber_15 : decode cX3_readNumber 15 = .ok (.if_icmp .ne 5, 3) := by decide +kernel
theorem dX3_readNumber_18 : decode cX3_readNumber 18 = .ok (.iconst (-1), 1) := by decide +kernel
theorem dX3_readNumber_19 : decode cX3_readNumber 19 = .ok (.ireturn, 1) := by decide +kernel
theorem dX3_readNumber_20 : decode cX3_readNumber 20 = .ok (.aload_n 0, 1) := by decide +kernel
theorem dX3_readNumber_21 : decode cX3_readNumber 21 = .ok (.iconst 0, 1) := by decide +kernel
theorem dX3_readNumber_22 : decode cX3_readNumber 22 = .ok (.iload_n 1, 1) := by decide +kernel
theorem dX3_readNumber_23 : decode cX3_readNumber 23 = .ok (.bipush 10, 2) := by decide +kernel
theorem dX3_readNumber_25 : decode cX3_readNumber 25 = .ok (.iload_n 3, 1) := by decide +kernel
theorem dX3_readNumber_26 : decode cX3_readNumber 26 = .ok (.imul, 1) := by decide +kernel
theorem dX3_readNumber_27 : decode cX3_readNumber 27 = .ok (.isub, 1) := by decide +kernel
theorem dX3_readNumber_28 : decode cX3_readNumber 28 = .ok (.invokestatic 73, 3) := by decide +kernel
theorem dX3_readNumber_31 : decode cX3_readNumber 31 = .ok (.bipush 9, 2) := by decide +kernel
theorem dX3_readNumber_33 : decode cX3_readNumber 33 = .ok (.iload_n 2, 1) := by decide +kernel
theorem dX3_readNumber_34 : decode cX3_readNumber 34 = .ok (.bipush 10, 2) := by decide +kernel
theorem dX3_readNumber_36 : decode cX3_readNumber 36 = .ok (.iload_n 3, 1) := by decide +kernel
theorem dX3_readNumber_37 : decode cX3_readNumber 37 = .ok (.imul, 1) := by decide +kernel
theorem dX3_readNumber_38 : decode cX3_readNumber 38 = .ok (.isub, 1) := by decide +kernel
theorem dX3_readNumber_39 : decode cX3_readNumber 39 = .ok (.invokestatic 78, 3) := by decide +kernel
theorem dX3_readNumber_42 : decode cX3_readNumber 42 = .ok (.invokevirtual 60, 3) := by decide +kernel
theorem dX3_readNumber_45 : decode cX3_readNumber 45 = .ok (.istore 4, 2) := by decide +kernel
theorem dX3_readNumber_47 : decode cX3_readNumber 47 = .ok (.iload 4, 2) := by decide +kernel
theorem dX3_readNumber_49 : decode cX3_readNumber 49 = .ok (.iconst (-1), 1) := by decide +kernel
theorem dX3_readNumber_50 : decode cX3_readNumber 50 = .ok (.if_icmp .ne 7, 3) := by decide +kernel
theorem dX3_readNumber_53 : decode cX3_readNumber 53 = .ok (.iconst (-1), 1) := by decide +kernel
theorem dX3_readNumber_54 : decode cX3_readNumber 54 = .ok (.goto 10, 3) := by decide +kernel
theorem dX3_readNumber_57 : decode cX3_readNumber 57 = .ok (.bipush 10, 2) := by decide +kernel
theorem dX3_readNumber_59 : decode cX3_readNumber 59 = .ok (.iload_n 3, 1) := by decide +kernel
theorem dX3_readNumber_60 : decode cX3_readNumber 60 = .ok (.imul, 1) := by decide +kernel
theorem dX3_readNumber_61 : decode cX3_readNumber 61 = .ok (.iload 4, 2) := by decide +kernel
theorem dX3_readNumber_63 : decode cX3_readNumber 63 = .ok (.iadd, 1) := by decide +kernel
theorem dX3_readNumber_64 : decode cX3_readNumber 64 = .ok (.ireturn, 1) := by decide +kernel
set_option maxRecDepth 20000 in
theorem ggX3_readDigit_X3_sign : GoodIn wsX3_readDigit wsX3_sign := goodIn_r _ [6, 1, 7, 8, 9, 10, 11, 12] (by decide +kernel) (by decide +kernel)
set_option maxRecDepth 20000 in
theorem gX3_readDigit_X3_sign : GoodIn wsX3_readDigit (wsV RX3 25 RX3 yX3_sign wsX3_sign) := goodIn_app (goodIn_of _ (by decide +kernel)) ggX3_readDigit_X3_sign
theorem dX3_readDigit_0 : decode cX3_readDigit 0 = .ok (.aload_n 0, 1) := by decide +kernel
theorem dX3_readDigit_1 : decode cX3_readDigit 1 = .ok (.invokevirtual 25, 3) := by decide +kernel
theorem dX3_readDigit_4 : decode cX3_readDigit 4 = .ok (.bipush 48, 2) := by decide +kernel
theorem dX3_readDigit_6 : decode cX3_readDigit 6 = .ok (.isub, 1) := by decide +kernel
theorem dX3_readDigit_7 : decode cX3_readDigit 7 = .ok (.istore_n 3, 1) := by decide +kernel
theorem dX3_readDigit_8 : decode cX3_readDigit 8 = .ok (.iload_n 3, 1) := by decide +kernel
theorem dX3_readDigit_9 : decode cX3_readDigit 9 = .ok (.iload_n 1, 1) := by decide +kernel
theorem dX3_readDigit_10 : decode cX3_readDigit 10 = .ok (.if_icmp .lt 8, 3) := by decide +kernel
theorem dX3_readDigit_13 : decode cX3_readDigit 13 = .ok (.iload_n 3, 1) := by decide +kernel
theorem dX3_readDigit_14 : decode cX3_readDigit 14 = .ok (.iload_n 2, 1) := by decide +kernel
theorem dX3_readDigit_15 : decode cX3_readDigit 15 = .ok (.if_icmp .le 5, 3) := by decide +kernel
theorem dX3_readDigit_18 : decode cX3_readDigit 18 = .ok (.iconst (-1), 1) := by decide +kernel
theorem dX3_readDigit_19 : decode cX3_readDigit 19 = .ok (.ireturn, 1) := by decide +kernel
theorem dX3_readDigit_20 : decode cX3_readDigit 20 = .ok (.aload_n 0, 1) := by decide +kernel
theorem dX3_readDigit_21 : decode cX3_readDigit 21 = .ok (.dup, 1) := by decide +kernel
theorem dX3_readDigit_22 : decode cX3_readDigit 22 = .ok (.getfield 19, 3) := by decide +kernel
theorem dX3_readDigit_25 : decode cX3_readDigit 25 = .ok (.iconst 1, 1) := by decide +kernel
theorem dX3_readDigit_26 : decode cX3_readDigit 26 = .ok (.iadd, 1) := by decide +kernel
theorem dX3_readDigit_27 : decode cX3_readDigit 27 = .ok (.putfield 19, 3) := by decide +kernel
theorem dX3_readDigit_30 : decode cX3_readDigit 30 = .ok (.iload_n 3, 1) := by decide +kernel
theorem dX3_readDigit_31 : decode cX3_readDigit 31 = .ok (.ireturn, 1) := by decide +kernel
theorem dX3_sign_0 : decode cX3_sign 0 = .ok (.aload_n 0, 1) := by decide +kernel
theorem dX3_sign_1 : decode cX3_sign 1 = .ok (.getfield 19, 3) := by decide +kernel
theorem dX3_sign_4 : decode cX3_sign 4 = .ok (.ifCond .lt 38, 3) := by decide +kernel
theorem dX3_sign_7 : decode cX3_sign 7 = .ok (.aload_n 0, 1) := by decide +kernel
theorem dX3_sign_8 : decode cX3_sign 8 = .ok (.getfield 19, 3) := by decide +kernel
theorem dX3_sign_11 : decode cX3_sign 11 = .ok (.aload_n 0, 1) := by decide +kernel
theorem dX3_sign_12 : decode cX3_sign 12 = .ok (.getfield 15, 3) := by decide +kernel
theorem dX3_sign_15 : decode cX3_sign 15 = .ok (.if_icmp .ge 27, 3) := by decide +kernel
theorem dX3_sign_18 : decode cX3_sign 18 = .ok (.aload_n 0, 1) := by decide +kernel
theorem dX3_sign_19 : decode cX3_sign 19 = .ok (.getfield 19, 3) := by decide +kernel
theorem dX3_sign_22 : decode cX3_sign 22 = .ok (.aload_n 0, 1) := by decide +kernel
theorem dX3_sign_23 : decode cX3_sign 23 = .ok (.getfield 9, 3) := by decide +kernel
theorem dX3_sign_26 : decode cX3_sign 26 = .ok (.arraylength, 1) := by decide +kernel
theorem dX3_sign_27 : decode cX3_sign 27 = .ok (.if_icmp .ge 15, 3) := by decide +kernel
theorem dX3_sign_30 : decode cX3_sign 30 = .ok (.aload_n 0, 1) := by decide +kernel
theorem dX3_sign_31 : decode cX3_sign 31 = .ok (.getfield 9, 3) := by decide +kernel
theorem dX3_sign_34 : decode cX3_sign 34 = .ok (.aload_n 0, 1) := by decide +kernel
theorem dX3_sign_35 : decode cX3_sign 35 = .ok (.getfield 19, 3) := by decide +kernel
theorem dX3_sign_38 : decode cX3_sign 38 = .ok (.caload, 1) := by decide +kernel
theorem dX3_sign_39 : decode cX3_sign 39 = .ok (.goto 4, 3) := by decide +kernel
theorem dX3_sign_42 : decode cX3_sign 42 = .ok (.iconst (-1), 1) := by decide +kernel
theorem dX3_sign_43 : decode cX3_sign 43 = .ok (.ireturn, 1) := by decide +kernel
set_option maxRecDepth 20000 in
theorem ggX4_init_X3_init : GoodIn wsX4_init wsX3_init := goodIn_r _ [23, 24, 2, 3, 25, 26, 54, 55, 56, 57] (by decide +kernel) (by decide +kernel)
set_option maxRecDepth 20000 in
theorem gX4_init_X3_init_n9 : GoodIn wsX4_init (wsX3_init) := ggX4_init_X3_init
set_option maxRecDepth 20000 in
theorem ggX4_init_X0_init : GoodIn wsX4_init wsX0_init := goodIn_r _ [28, 29, 2, 3, 30, 31, 64, 65, 66, 67, 68, 69, 70, 71, 72, 73] (by decide +kernel) (by decide +kernel)
set_option maxRecDepth 20000 in
theorem gX4_init_X0_init_n18 : GoodIn wsX4_init (wsX0_init) := ggX4_init_X0_init
set_option maxRecDepth 20000 in
theorem ggX4_init_X1_init : GoodIn wsX4_init wsX1_init := goodIn_r _ [33, 34, 2, 3, 30, 35, 74, 75] (by decide +kernel) (by decide +kernel)
set_option maxRecDepth 20000 in
theorem gX4_init_X1_init_n28 : GoodIn wsX4_init (wsX1_init) := ggX4_init_X1_init
set_option maxRecDepth 20000 in
theorem ggX4_init_X2_init : GoodIn wsX4_init wsX2_init := goodIn_r _ [37, 38, 2, 3, 39, 40, 76, 77, 78] (by decide +kernel) (by decide +kernel)
set_option maxRecDepth 20000 in
theorem gX4_init_X2_init_n35 : GoodIn wsX4_init (wsX2_init) := ggX4_init_X2_init
set_option maxRecDepth 20000 in
theorem ggX4_init_X0_makeNew : GoodIn wsX4_init wsX0_makeNew := goodIn_r _ [44, 45, 46, 47, 48, 49, 50, 51, 52, 53, 64, 65, 66, 67, 68, 69, 70, 71, 72, 73] (by decide +kernel) (by decide +kernel)
set_option maxRecDepth 20000 in
theorem gX4_init_X0_makeNew : GoodIn wsX4_init (wsV RX4 44 RX0 yX0_makeNew wsX0_makeNew) := goodIn_app (goodIn_of _ (by decide +kernel)) ggX4_init_X0_makeNew
