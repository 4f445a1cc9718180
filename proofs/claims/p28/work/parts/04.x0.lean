theorem dX0_init_0 : decode cX0_init 0 = .ok (.aload_n 0, 1) := by decide +kernel
theorem dX0_init_1 : decode cX0_init 1 = .ok (.invokespecial 3, 3) := by decide +kernel
theorem dX0_init_4 : decode cX0_init 4 = .ok (.aload_n 0, 1) := by decide +kernel
theorem dX0_init_5 : decode cX0_init 5 = .ok (.bipush 48, 2) := by decide +kernel
theorem dX0_init_7 : decode cX0_init 7 = .ok (.newarray .int, 2) := by decide +kernel
theorem dX0_init_9 : decode cX0_init 9 = .ok (.putfield 9, 3) := by decide +kernel
theorem dX0_init_12 : decode cX0_init 12 = .ok (.return_, 1) := by decide +kernel
theorem dX0_makeNew_0 : decode cX0_makeNew 0 = .ok (.aload_n 0, 1) := by decide +kernel
theorem dX0_makeNew_1 : decode cX0_makeNew 1 = .ok (.iload_n 1, 1) := by decide +kernel
theorem dX0_makeNew_2 : decode cX0_makeNew 2 = .ok (.putfield 15, 3) := by decide +kernel
theorem dX0_makeNew_5 : decode cX0_makeNew 5 = .ok (.aload_n 0, 1) := by decide +kernel
theorem dX0_makeNew_6 : decode cX0_makeNew 6 = .ok (.iconst 3, 1) := by decide +kernel
theorem dX0_makeNew_7 : decode cX0_makeNew 7 = .ok (.putfield 19, 3) := by decide +kernel
theorem dX0_makeNew_10 : decode cX0_makeNew 10 = .ok (.aload_n 0, 1) := by decide +kernel
theorem dX0_makeNew_11 : decode cX0_makeNew 11 = .ok (.iconst 2, 1) := by decide +kernel
theorem dX0_makeNew_12 : decode cX0_makeNew 12 = .ok (.putfield 22, 3) := by decide +kernel
theorem dX0_makeNew_15 : decode cX0_makeNew 15 = .ok (.aload_n 0, 1) := by decide +kernel
theorem dX0_makeNew_16 : decode cX0_makeNew 16 = .ok (.iconst 1, 1) := by decide +kernel
theorem dX0_makeNew_17 : decode cX0_makeNew 17 = .ok (.putfield 25, 3) := by decide +kernel
theorem dX0_makeNew_20 : decode cX0_makeNew 20 = .ok (.aload_n 0, 1) := by decide +kernel
theorem dX0_makeNew_21 : decode cX0_makeNew 21 = .ok (.iconst 0, 1) := by decide +kernel
theorem dX0_makeNew_22 : decode cX0_makeNew 22 = .ok (.putfield 28, 3) := by decide +kernel
theorem dX0_makeNew_25 : decode cX0_makeNew 25 = .ok (.aload_n 0, 1) := by decide +kernel
theorem dX0_makeNew_26 : decode cX0_makeNew 26 = .ok (.iconst 0, 1) := by decide +kernel
theorem dX0_makeNew_27 : decode cX0_makeNew 27 = .ok (.putfield 31, 3) := by decide +kernel
theorem dX0_makeNew_30 : decode cX0_makeNew 30 = .ok (.aload_n 0, 1) := by decide +kernel
theorem dX0_makeNew_31 : decode cX0_makeNew 31 = .ok (.iconst 0, 1) := by decide +kernel
theorem dX0_makeNew_32 : decode cX0_makeNew 32 = .ok (.putfield 34, 3) := by decide +kernel
theorem dX0_makeNew_35 : decode cX0_makeNew 35 = .ok (.aload_n 0, 1) := by decide +kernel
theorem dX0_makeNew_36 : decode cX0_makeNew 36 = .ok (.iconst 0, 1) := by decide +kernel
theorem dX0_makeNew_37 : decode cX0_makeNew 37 = .ok (.putfield 37, 3) := by decide +kernel
theorem dX0_makeNew_40 : decode cX0_makeNew 40 = .ok (.aload_n 0, 1) := by decide +kernel
theorem dX0_makeNew_41 : decode cX0_makeNew 41 = .ok (.lconst 0, 1) := by decide +kernel
theorem dX0_makeNew_42 : decode cX0_makeNew 42 = .ok (.putfield 40, 3) := by decide +kernel
theorem dX0_makeNew_45 : decode cX0_makeNew 45 = .ok (.return_, 1) := by decide +kernel
theorem dX0_takeFrom_0 : decode cX0_takeFrom 0 = .ok (.aload_n 0, 1) := by decide +kernel
theorem dX0_takeFrom_1 : decode cX0_takeFrom 1 = .ok (.aload_n 1, 1) := by decide +kernel
theorem dX0_takeFrom_2 : decode cX0_takeFrom 2 = .ok (.getfield 15, 3) := by decide +kernel
theorem dX0_takeFrom_5 : decode cX0_takeFrom 5 = .ok (.putfield 15, 3) := by decide +kernel
theorem dX0_takeFrom_8 : decode cX0_takeFrom 8 = .ok (.aload_n 0, 1) := by decide +kernel
theorem dX0_takeFrom_9 : decode cX0_takeFrom 9 = .ok (.aload_n 1, 1) := by decide +kernel
theorem dX0_takeFrom_10 : decode cX0_takeFrom 10 = .ok (.getfield 19, 3) := by decide +kernel
theorem dX0_takeFrom_13 : decode cX0_takeFrom 13 = .ok (.putfield 19, 3) := by decide +kernel
theorem dX0_takeFrom_16 : decode cX0_takeFrom 16 = .ok (.aload_n 0, 1) := by decide +kernel
theorem dX0_takeFrom_17 : decode cX0_takeFrom 17 = .ok (.aload_n 1, 1) := by decide +kernel
theorem dX0_takeFrom_18 : decode cX0_takeFrom 18 = .ok (.getfield 22, 3) := by decide +kernel
theorem dX0_takeFrom_21 : decode cX0_takeFrom 21 = .ok (.putfield 22, 3) := by decide +kernel
theorem dX0_takeFrom_24 : decode cX0_takeFrom 24 = .ok (.aload_n 0, 1) := by decide +kernel
theorem dX0_takeFrom_25 : decode cX0_takeFrom 25 = .ok (.aload_n 1, 1) := by decide +kernel
theorem dX0_takeFrom_26 : decode cX0_takeFrom 26 = .ok (.getfield 25, 3) := by decide +kernel
theorem dX0_takeFrom_29 : decode cX0_takeFrom 29 = .ok (.putfield 25, 3) := by decide +kernel
theorem dX0_takeFrom_32 : decode cX0_takeFrom 32 = .ok (.aload_n 0, 1) := by decide +kernel
theorem dX0_takeFrom_33 : decode cX0_takeFrom 33 = .ok (.aload_n 1, 1) := by decide +kernel
theorem dX0_takeFrom_34 : decode cX0_takeFrom 34 = .ok (.getfield 28, 3) := by decide +kernel
theorem dX0_takeFrom_37 : decode cX0_takeFrom 37 = .ok (.putfield 28, 3) := by decide +kernel
theorem dX0_takeFrom_40 : decode cX0_takeFrom 40 = .ok (.aload_n 0, 1) := by decide +kernel
theorem dX0_takeFrom_41 : decode cX0_takeFrom 41 = .ok (.aload_n 1, 1) := by decide +kernel
theorem dX0_takeFrom_42 : decode cX0_takeFrom 42 = .ok (.getfield 31, 3) := by decide +kernel
theorem dX0_takeFrom_45 : decode cX0_takeFrom 45 = .ok (.putfield 31, 3) := by decide +kernel
theorem dX0_takeFrom_48 : decode cX0_takeFrom 48 = .ok (.aload_n 0, 1) := by decide +kernel
theorem dX0_takeFrom_49 : decode cX0_takeFrom 49 = .ok (.aload_n 1, 1) := by decide +kernel
theorem dX0_takeFrom_50 : decode cX0_takeFrom 50 = .ok (.getfield 34, 3) := by decide +kernel
theorem dX0_takeFrom_53 : decode cX0_takeFrom 53 = .ok (.putfield 34, 3) := by decide +kernel
theorem dX0_takeFrom_56 : decode cX0_takeFrom 56 = .ok (.aload_n 0, 1) := by decide +kernel
theorem dX0_takeFrom_57 : decode cX0_takeFrom 57 = .ok (.aload_n 1, 1) := by decide +kernel
theorem dX0_takeFrom_58 : decode cX0_takeFrom 58 = .ok (.getfield 37, 3) := by decide +kernel
theorem dX0_takeFrom_61 : decode cX0_takeFrom 61 = .ok (.putfield 37, 3) := by decide +kernel
theorem dX0_takeFrom_64 : decode cX0_takeFrom 64 = .ok (.aload_n 0, 1) := by decide +kernel
theorem dX0_takeFrom_65 : decode cX0_takeFrom 65 = .ok (.aload_n 1, 1) := by decide +kernel
theorem dX0_takeFrom_66 : decode cX0_takeFrom 66 = .ok (.getfield 40, 3) := by decide +kernel
theorem dX0_takeFrom_69 : decode cX0_takeFrom 69 = .ok (.putfield 40, 3) := by decide +kernel
theorem dX0_takeFrom_72 : decode cX0_takeFrom 72 = .ok (.iconst 0, 1) := by decide +kernel
theorem dX0_takeFrom_73 : decode cX0_takeFrom 73 = .ok (.istore_n 2, 1) := by decide +kernel
theorem dX0_takeFrom_74 : decode cX0_takeFrom 74 = .ok (.iload_n 2, 1) := by decide +kernel
theorem dX0_takeFrom_75 : decode cX0_takeFrom 75 = .ok (.aload_n 0, 1) := by decide +kernel
theorem dX0_takeFrom_76 : decode cX0_takeFrom 76 = .ok (.getfield 9, 3) := by decide +kernel
theorem dX0_takeFrom_79 : decode cX0_takeFrom 79 = .ok (.arraylength, 1) := by decide +kernel
theorem dX0_takeFrom_80 : decode cX0_takeFrom 80 = .ok (.if_icmp .ge 30, 3) := by decide +kernel
theorem dX0_takeFrom_83 : decode cX0_takeFrom 83 = .ok (.iload_n 2, 1) := by decide +kernel
theorem dX0_takeFrom_84 : decode cX0_takeFrom 84 = .ok (.aload_n 1, 1) := by decide +kernel
theorem dX0_takeFrom_85 : decode cX0_takeFrom 85 = .ok (.getfield 9, 3) := by decide +kernel
theorem dX0_takeFrom_88 : decode cX0_takeFrom 88 = .ok (.arraylength, 1) := by decide +kernel
theorem dX0_takeFrom_89 : decode cX0_takeFrom 89 = .ok (.if_icmp .ge 21, 3) := by decide +kernel
theorem dX0_takeFrom_92 : decode cX0_takeFrom 92 = .ok (.aload_n 0, 1) := by decide +kernel
theorem dX0_takeFrom_93 : decode cX0_takeFrom 93 = .ok (.getfield 9, 3) := by decide +kernel
theorem dX0_takeFrom_96 : decode cX0_takeFrom 96 = .ok (.iload_n 2, 1) := by decide +kernel
theorem dX0_takeFrom_97 : decode cX0_takeFrom 97 = .ok (.aload_n 1, 1) := by decide +kernel
theorem dX0_takeFrom_98 : decode cX0_takeFrom 98 = .ok (.getfield 9, 3) := by decide +kernel
theorem dX0_takeFrom_101 : decode cX0_takeFrom 101 = .ok (.iload_n 2, 1) := by decide +kernel
theorem dX0_takeFrom_102 : decode cX0_takeFrom 102 = .ok (.iaload, 1) := by decide +kernel
theorem dX0_takeFrom_103 : decode cX0_takeFrom 103 = .ok (.iastore, 1) := by decide +kernel
theorem dX0_takeFrom_104 : decode cX0_takeFrom 104 = .ok (.iinc 2 1, 3) := by decide +kernel
theorem dX0_takeFrom_107 : decode cX0_takeFrom 107 = .ok (.goto (-33), 3) := by decide +kernel
theorem dX0_takeFrom_110 : decode cX0_takeFrom 110 = .ok (.return_, 1) := by decide +kernel
theorem dX0_isPlace_0 : decode cX0_isPlace 0 = .ok (.iload_n 1, 1) := by decide +kernel
theorem dX0_isPlace_1 : decode cX0_isPlace 1 = .ok (.ifCond .lt 15, 3) := by decide +kernel
theorem dX0_isPlace_4 : decode cX0_isPlace 4 = .ok (.iload_n 1, 1) := by decide +kernel
theorem dX0_isPlace_5 : decode cX0_isPlace 5 = .ok (.aload_n 0, 1) := by decide +kernel
theorem dX0_isPlace_6 : decode cX0_isPlace 6 = .ok (.getfield 15, 3) := by decide +kernel
theorem dX0_isPlace_9 : decode cX0_isPlace 9 = .ok (.if_icmp .ge 7, 3) := by decide +kernel
theorem dX0_isPlace_12 : decode cX0_isPlace 12 = .ok (.iconst 1, 1) := by decide +kernel
theorem dX0_isPlace_13 : decode cX0_isPlace 13 = .ok (.goto 4, 3) := by decide +kernel
theorem dX0_isPlace_16 : decode cX0_isPlace 16 = .ok (.iconst 0, 1) := by decide +kernel
theorem dX0_isPlace_17 : decode cX0_isPlace 17 = .ok (.ireturn, 1) := by decide +kernel
theorem dX0_isAnswer_0 : decode cX0_isAnswer 0 = .ok (.iload_n 1, 1) := by decide +kernel
theorem dX0_isAnswer_1 : decode cX0_isAnswer 1 = .ok (.ifCond .lt 15, 3) := by decide +kernel
theorem dX0_isAnswer_4 : decode cX0_isAnswer 4 = .ok (.iload_n 1, 1) := by decide +kernel
theorem dX0_isAnswer_5 : decode cX0_isAnswer 5 = .ok (.aload_n 0, 1) := by decide +kernel
theorem dX0_isAnswer_6 : decode cX0_isAnswer 6 = .ok (.getfield 28, 3) := by decide +kernel
theorem dX0_isAnswer_9 : decode cX0_isAnswer 9 = .ok (.if_icmp .ge 7, 3) := by decide +kernel
theorem dX0_isAnswer_12 : decode cX0_isAnswer 12 = .ok (.iconst 1, 1) := by decide +kernel
theorem dX0_isAnswer_13 : decode cX0_isAnswer 13 = .ok (.goto 4, 3) := by decide +kernel
theorem dX0_isAnswer_16 : decode cX0_isAnswer 16 = .ok (.iconst 0, 1) := by decide +kernel
theorem dX0_isAnswer_17 : decode cX0_isAnswer 17 = .ok (.ireturn, 1) := by decide +kernel
theorem dX0_isNarrow_0 : decode cX0_isNarrow 0 = .ok (.iload_n 2, 1) := by decide +kernel
theorem dX0_isNarrow_1 : decode cX0_isNarrow 1 = .ok (.iload_n 1, 1) := by decide +kernel
theorem dX0_isNarrow_2 : decode cX0_isNarrow 2 = .ok (.isub, 1) := by decide +kernel
theorem dX0_isNarrow_3 : decode cX0_isNarrow 3 = .ok (.iconst 1, 1) := by decide +kernel
theorem dX0_isNarrow_4 : decode cX0_isNarrow 4 = .ok (.iadd, 1) := by decide +kernel
theorem dX0_isNarrow_5 : decode cX0_isNarrow 5 = .ok (.aload_n 0, 1) := by decide +kernel
theorem dX0_isNarrow_6 : decode cX0_isNarrow 6 = .ok (.getfield 19, 3) := by decide +kernel
theorem dX0_isNarrow_9 : decode cX0_isNarrow 9 = .ok (.if_icmp .ge 7, 3) := by decide +kernel
theorem dX0_isNarrow_12 : decode cX0_isNarrow 12 = .ok (.iconst 1, 1) := by decide +kernel
theorem dX0_isNarrow_13 : decode cX0_isNarrow 13 = .ok (.goto 4, 3) := by decide +kernel
theorem dX0_isNarrow_16 : decode cX0_isNarrow 16 = .ok (.iconst 0, 1) := by decide +kernel
theorem dX0_isNarrow_17 : decode cX0_isNarrow 17 = .ok (.ireturn, 1) := by decide +kernel
theorem dX0_hasKey_0 : decode cX0_hasKey 0 = .ok (.aload_n 0, 1) := by decide +kernel
theorem dX0_hasKey_1 : decode cX0_hasKey 1 = .ok (.getfield 40, 3) := by decide +kernel
theorem dX0_hasKey_4 : decode cX0_hasKey 4 = .ok (.iload_n 1, 1) := by decide +kernel
theorem dX0_hasKey_5 : decode cX0_hasKey 5 = .ok (.lushr, 1) := by decide +kernel
theorem dX0_hasKey_6 : decode cX0_hasKey 6 = .ok (.lconst 1, 1) := by decide +kernel
theorem dX0_hasKey_7 : decode cX0_hasKey 7 = .ok (.land, 1) := by decide +kernel
theorem dX0_hasKey_8 : decode cX0_hasKey 8 = .ok (.lconst 1, 1) := by decide +kernel
theorem dX0_hasKey_9 : decode cX0_hasKey 9 = .ok (.lcmp, 1) := by decide +kernel
theorem dX0_hasKey_10 : decode cX0_hasKey 10 = .ok (.ifCond .ne 7, 3) := by decide +kernel
theorem dX0_hasKey_13 : decode cX0_hasKey 13 = .ok (.iconst 1, 1) := by decide +kernel
theorem dX0_hasKey_14 : decode cX0_hasKey 14 = .ok (.goto 4, 3) := by decide +kernel
theorem dX0_hasKey_17 : decode cX0_hasKey 17 = .ok (.iconst 0, 1) := by decide +kernel
theorem dX0_hasKey_18 : decode cX0_hasKey 18 = .ok (.ireturn, 1) := by decide +kernel
set_option maxRecDepth 20000 in
theorem ggX0_countKeys_J13_bitCount_95d88 : GoodIn wsX0_countKeys wsJ13_bitCount_95d88 := goodIn_r _ [5, 6, 7, 8] (by decide +kernel) (by decide +kernel)
set_option maxRecDepth 20000 in
theorem gX0_countKeys_J13_bitCount_95d88 : GoodIn wsX0_countKeys (va_wsS RX0 44 yJ13_bitCount_95d88 wsJ13_bitCount_95d88) := goodIn_app (goodIn_of _ (by decide +kernel)) ggX0_countKeys_J13_bitCount_95d88
theorem dX0_countKeys_0 : decode cX0_countKeys 0 = .ok (.aload_n 0, 1) := by decide +kernel
theorem dX0_countKeys_1 : decode cX0_countKeys 1 = .ok (.getfield 40, 3) := by decide +kernel
theorem dX0_countKeys_4 : decode cX0_countKeys 4 = .ok (.invokestatic 44, 3) := by decide +kernel
theorem dX0_countKeys_7 : decode cX0_countKeys 7 = .ok (.ireturn, 1) := by decide +kernel
theorem dX0_cell_0 : decode cX0_cell 0 = .ok (.iload_n 1, 1) := by decide +kernel
theorem dX0_cell_1 : decode cX0_cell 1 = .ok (.iconst 4, 1) := by decide +kernel
theorem dX0_cell_2 : decode cX0_cell 2 = .ok (.imul, 1) := by decide +kernel
theorem dX0_cell_3 : decode cX0_cell 3 = .ok (.iload_n 2, 1) := by decide +kernel
theorem dX0_cell_4 : decode cX0_cell 4 = .ok (.iadd, 1) := by decide +kernel
theorem dX0_cell_5 : decode cX0_cell 5 = .ok (.istore_n 3, 1) := by decide +kernel
theorem dX0_cell_6 : decode cX0_cell 6 = .ok (.iload_n 3, 1) := by decide +kernel
theorem dX0_cell_7 : decode cX0_cell 7 = .ok (.ifCond .lt 21, 3) := by decide +kernel
theorem dX0_cell_10 : decode cX0_cell 10 = .ok (.iload_n 3, 1) := by decide +kernel
theorem dX0_cell_11 : decode cX0_cell 11 = .ok (.aload_n 0, 1) := by decide +kernel
theorem dX0_cell_12 : decode cX0_cell 12 = .ok (.getfield 9, 3) := by decide +kernel
theorem dX0_cell_15 : decode cX0_cell 15 = .ok (.arraylength, 1) := by decide +kernel
theorem dX0_cell_16 : decode cX0_cell 16 = .ok (.if_icmp .ge 12, 3) := by decide +kernel
theorem dX0_cell_19 : decode cX0_cell 19 = .ok (.aload_n 0, 1) := by decide +kernel
theorem dX0_cell_20 : decode cX0_cell 20 = .ok (.getfield 9, 3) := by decide +kernel
theorem dX0_cell_23 : decode cX0_cell 23 = .ok (.iload_n 3, 1) := by decide +kernel
theorem dX0_cell_24 : decode cX0_cell 24 = .ok (.iaload, 1) := by decide +kernel
theorem dX0_cell_25 : decode cX0_cell 25 = .ok (.goto 4, 3) := by decide +kernel
theorem dX0_cell_28 : decode cX0_cell 28 = .ok (.iconst (-1), 1) := by decide +kernel
theorem dX0_cell_29 : decode cX0_cell 29 = .ok (.ireturn, 1) := by decide +kernel
set_option maxRecDepth 20000 in
theorem ggX0_fewestTold_X0_cell : GoodIn wsX0_fewestTold wsX0_cell := goodIn_r _ [5, 6, 7, 8, 9, 10, 11, 12, 13, 14, 15, 16] (by decide +kernel) (by decide +kernel)
set_option maxRecDepth 20000 in
theorem gX0_fewestTold_X0_cell : GoodIn wsX0_fewestTold (wsV RX0 50 RX0 yX0_cell wsX0_cell) := goodIn_app (goodIn_of _ (by decide +kernel)) ggX0_fewestTold_X0_cell
theorem dX0_fewestTold_0 : decode cX0_fewestTold 0 = .ok (.aload_n 0, 1) := by decide +kernel
theorem dX0_fewestTold_1 : decode cX0_fewestTold 1 = .ok (.iload_n 1, 1) := by decide +kernel
theorem dX0_fewestTold_2 : decode cX0_fewestTold 2 = .ok (.iconst 2, 1) := by decide +kernel
theorem dX0_fewestTold_3 : decode cX0_fewestTold 3 = .ok (.invokevirtual 50, 3) := by decide +kernel
theorem dX0_fewestTold_6 : decode cX0_fewestTold 6 = .ok (.istore_n 2, 1) := by decide +kernel
theorem dX0_fewestTold_7 : decode cX0_fewestTold 7 = .ok (.iload_n 2, 1) := by decide +kernel
theorem dX0_fewestTold_8 : decode cX0_fewestTold 8 = .ok (.bipush (-2), 2) := by decide +kernel
theorem dX0_fewestTold_10 : decode cX0_fewestTold 10 = .ok (.if_icmp .ne 7, 3) := by decide +kernel
theorem dX0_fewestTold_13 : decode cX0_fewestTold 13 = .ok (.iconst 0, 1) := by decide +kernel
theorem dX0_fewestTold_14 : decode cX0_fewestTold 14 = .ok (.goto 4, 3) := by decide +kernel
theorem dX0_fewestTold_17 : decode cX0_fewestTold 17 = .ok (.iload_n 2, 1) := by decide +kernel
theorem dX0_fewestTold_18 : decode cX0_fewestTold 18 = .ok (.ireturn, 1) := by decide +kernel
set_option maxRecDepth 20000 in
theorem ggX0_greatestTold_X0_cell : GoodIn wsX0_greatestTold wsX0_cell := goodIn_r _ [6, 7, 8, 9, 10, 11, 12, 13, 14, 15, 16, 17] (by decide +kernel) (by decide +kernel)
set_option maxRecDepth 20000 in
theorem gX0_greatestTold_X0_cell : GoodIn wsX0_greatestTold (wsV RX0 50 RX0 yX0_cell wsX0_cell) := goodIn_app (goodIn_of _ (by decide +kernel)) ggX0_greatestTold_X0_cell
theorem dX0_greatestTold_0 : decode cX0_greatestTold 0 = .ok (.aload_n 0, 1) := by decide +kernel
theorem dX0_greatestTold_1 : decode cX0_greatestTold 1 = .ok (.iload_n 1, 1) := by decide +kernel
theorem dX0_greatestTold_2 : decode cX0_greatestTold 2 = .ok (.iconst 2, 1) := by decide +kernel
theorem dX0_greatestTold_3 : decode cX0_greatestTold 3 = .ok (.invokevirtual 50, 3) := by decide +kernel
theorem dX0_greatestTold_6 : decode cX0_greatestTold 6 = .ok (.istore_n 2, 1) := by decide +kernel
theorem dX0_greatestTold_7 : decode cX0_greatestTold 7 = .ok (.iload_n 2, 1) := by decide +kernel
theorem dX0_greatestTold_8 : decode cX0_greatestTold 8 = .ok (.bipush (-2), 2) := by decide +kernel
theorem dX0_greatestTold_10 : decode cX0_greatestTold 10 = .ok (.if_icmp .ne 12, 3) := by decide +kernel
theorem dX0_greatestTold_13 : decode cX0_greatestTold 13 = .ok (.aload_n 0, 1) := by decide +kernel
theorem dX0_greatestTold_14 : decode cX0_greatestTold 14 = .ok (.getfield 22, 3) := by decide +kernel
theorem dX0_greatestTold_17 : decode cX0_greatestTold 17 = .ok (.iconst 1, 1) := by decide +kernel
theorem dX0_greatestTold_18 : decode cX0_greatestTold 18 = .ok (.isub, 1) := by decide +kernel
theorem dX0_greatestTold_19 : decode cX0_greatestTold 19 = .ok (.goto 4, 3) := by decide +kernel
theorem dX0_greatestTold_22 : decode cX0_greatestTold 22 = .ok (.iload_n 2, 1) := by decide +kernel
theorem dX0_greatestTold_23 : decode cX0_greatestTold 23 = .ok (.ireturn, 1) := by decide +kernel
set_option maxRecDepth 20000 in
theorem ggX0_price_X0_answerAbout : GoodIn wsX0_price wsX0_answerAbout := goodIn_r _ [5, 6, 7, 8, 9, 4, 10, 11, 17, 18, 19, 20, 21, 22, 23, 24, 25, 26] (by decide +kernel) (by decide +kernel)
set_option maxRecDepth 20000 in
theorem gX0_price_X0_answerAbout : GoodIn wsX0_price (wsV RX0 54 RX0 yX0_answerAbout wsX0_answerAbout) := goodIn_app (goodIn_of _ (by decide +kernel)) ggX0_price_X0_answerAbout
set_option maxRecDepth 20000 in
theorem ggX0_price_X0_fullPrice : GoodIn wsX0_price wsX0_fullPrice := goodIn_r _ [15, 16, 17, 18, 19, 20, 21, 22, 23, 24, 25, 26] (by decide +kernel) (by decide +kernel)
set_option maxRecDepth 20000 in
theorem gX0_price_X0_fullPrice : GoodIn wsX0_price (wsV RX0 57 RX0 yX0_fullPrice wsX0_fullPrice) := goodIn_app (goodIn_of _ (by decide +kernel)) ggX0_price_X0_fullPrice
theorem dX0_price_0 : decode cX0_price 0 = .ok (.aload_n 0, 1) := by decide +kernel
theorem dX0_price_1 : decode cX0_price 1 = .ok (.iload_n 1, 1) := by decide +kernel
theorem dX0_price_2 : decode cX0_price 2 = .ok (.iload_n 2, 1) := by decide +kernel
theorem dX0_price_3 : decode cX0_price 3 = .ok (.invokevirtual 54, 3) := by decide +kernel
theorem dX0_price_6 : decode cX0_price 6 = .ok (.iconst (-1), 1) := by decide +kernel
theorem dX0_price_7 : decode cX0_price 7 = .ok (.if_icmp .ne 12, 3) := by decide +kernel
theorem dX0_price_10 : decode cX0_price 10 = .ok (.aload_n 0, 1) := by decide +kernel
theorem dX0_price_11 : decode cX0_price 11 = .ok (.iload_n 1, 1) := by decide +kernel
theorem dX0_price_12 : decode cX0_price 12 = .ok (.iload_n 2, 1) := by decide +kernel
theorem dX0_price_13 : decode cX0_price 13 = .ok (.invokevirtual 57, 3) := by decide +kernel
theorem dX0_price_16 : decode cX0_price 16 = .ok (.goto 4, 3) := by decide +kernel
theorem dX0_price_19 : decode cX0_price 19 = .ok (.iconst 0, 1) := by decide +kernel
theorem dX0_price_20 : decode cX0_price 20 = .ok (.ireturn, 1) := by decide +kernel
theorem dX0_fullPrice_0 : decode cX0_fullPrice 0 = .ok (.aload_n 0, 1) := by decide +kernel
theorem dX0_fullPrice_1 : decode cX0_fullPrice 1 = .ok (.getfield 25, 3) := by decide +kernel
theorem dX0_fullPrice_4 : decode cX0_fullPrice 4 = .ok (.iload_n 2, 1) := by decide +kernel
theorem dX0_fullPrice_5 : decode cX0_fullPrice 5 = .ok (.iload_n 1, 1) := by decide +kernel
theorem dX0_fullPrice_6 : decode cX0_fullPrice 6 = .ok (.isub, 1) := by decide +kernel
theorem dX0_fullPrice_7 : decode cX0_fullPrice 7 = .ok (.iconst 1, 1) := by decide +kernel
theorem dX0_fullPrice_8 : decode cX0_fullPrice 8 = .ok (.iadd, 1) := by decide +kernel
theorem dX0_fullPrice_9 : decode cX0_fullPrice 9 = .ok (.iconst 4, 1) := by decide +kernel
theorem dX0_fullPrice_10 : decode cX0_fullPrice 10 = .ok (.idiv, 1) := by decide +kernel
theorem dX0_fullPrice_11 : decode cX0_fullPrice 11 = .ok (.iadd, 1) := by decide +kernel
theorem dX0_fullPrice_12 : decode cX0_fullPrice 12 = .ok (.ireturn, 1) := by decide +kernel
set_option maxRecDepth 20000 in
theorem ggX0_answerAbout_X0_cell : GoodIn wsX0_answerAbout wsX0_cell := goodIn_r _ [6, 7, 8, 9, 10, 11, 12, 13, 14, 15, 16, 17] (by decide +kernel) (by decide +kernel)
set_option maxRecDepth 20000 in
theorem gX0_answerAbout_X0_cell : GoodIn wsX0_answerAbout (wsV RX0 50 RX0 yX0_cell wsX0_cell) := goodIn_app (goodIn_of _ (by decide +kernel)) ggX0_answerAbout_X0_cell
theorem dX0_answerAbout_0 : decode cX0_answerAbout 0 = .ok (.iconst 0, 1) := by decide +kernel
theorem dX0_answerAbout_1 : decode cX0_answerAbout 1 = .ok (.istore_n 3, 1) := by decide +kernel
theorem dX0_answerAbout_2 : decode cX0_answerAbout 2 = .ok (.iload_n 3, 1) := by decide +kernel
theorem dX0_answerAbout_3 : decode cX0_answerAbout 3 = .ok (.aload_n 0, 1) := by decide +kernel
theorem dX0_answerAbout_4 : decode cX0_answerAbout 4 = .ok (.getfield 28, 3) := by decide +kernel
theorem dX0_answerAbout_7 : decode cX0_answerAbout 7 = .ok (.if_icmp .ge 31, 3) := by decide +kernel
theorem dX0_answerAbout_10 : decode cX0_answerAbout 10 = .ok (.aload_n 0, 1) := by decide +kernel
theorem dX0_answerAbout_11 : decode cX0_answerAbout 11 = .ok (.iload_n 3, 1) := by decide +kernel
theorem dX0_answerAbout_12 : decode cX0_answerAbout 12 = .ok (.iconst 0, 1) := by decide +kernel
theorem dX0_answerAbout_13 : decode cX0_answerAbout 13 = .ok (.invokevirtual 50, 3) := by decide +kernel
theorem dX0_answerAbout_16 : decode cX0_answerAbout 16 = .ok (.iload_n 1, 1) := by decide +kernel
theorem dX0_answerAbout_17 : decode cX0_answerAbout 17 = .ok (.if_icmp .ne 15, 3) := by decide +kernel
theorem dX0_answerAbout_20 : decode cX0_answerAbout 20 = .ok (.aload_n 0, 1) := by decide +kernel
theorem dX0_answerAbout_21 : decode cX0_answerAbout 21 = .ok (.iload_n 3, 1) := by decide +kernel
theorem dX0_answerAbout_22 : decode cX0_answerAbout 22 = .ok (.iconst 1, 1) := by decide +kernel
theorem dX0_answerAbout_23 : decode cX0_answerAbout 23 = .ok (.invokevirtual 50, 3) := by decide +kernel
theorem dX0_answerAbout_26 : decode cX0_answerAbout 26 = .ok (.iload_n 2, 1) := by decide +kernel
theorem dX0_answerAbout_27 : decode cX0_answerAbout 27 = .ok (.if_icmp .ne 5, 3) := by decide +kernel
theorem dX0_answerAbout_30 : decode cX0_answerAbout 30 = .ok (.iload_n 3, 1) := by decide +kernel
theorem dX0_answerAbout_31 : decode cX0_answerAbout 31 = .ok (.ireturn, 1) := by decide +kernel
theorem dX0_answerAbout_32 : decode cX0_answerAbout 32 = .ok (.iinc 3 1, 3) := by decide +kernel
theorem dX0_answerAbout_35 : decode cX0_answerAbout 35 = .ok (.goto (-33), 3) := by decide +kernel
theorem dX0_answerAbout_38 : decode cX0_answerAbout 38 = .ok (.iconst (-1), 1) := by decide +kernel
theorem dX0_answerAbout_39 : decode cX0_answerAbout 39 = .ok (.ireturn, 1) := by decide +kernel
set_option maxRecDepth 20000 in
theorem ggX0_tell_J13_bitCount_95d88 : GoodIn wsX0_tell wsJ13_bitCount_95d88 := goodIn_r _ [6, 7, 8, 9] (by decide +kernel) (by decide +kernel)
set_option maxRecDepth 20000 in
theorem gX0_tell_J13_bitCount_95d88 : GoodIn wsX0_tell (va_wsS RX0 44 yJ13_bitCount_95d88 wsJ13_bitCount_95d88) := goodIn_app (goodIn_of _ (by decide +kernel)) ggX0_tell_J13_bitCount_95d88
theorem dX0_tell_0 : decode cX0_tell 0 = .ok (.lconst 1, 1) := by decide +kernel
theorem dX0_tell_1 : decode cX0_tell 1 = .ok (.iload_n 2, 1) := by decide +kernel
theorem dX0_tell_2 : decode cX0_tell 2 = .ok (.iload_n 1, 1) := by decide +kernel
theorem dX0_tell_3 : decode cX0_tell 3 = .ok (.isub, 1) := by decide +kernel
theorem dX0_tell_4 : decode cX0_tell 4 = .ok (.iconst 1, 1) := by decide +kernel
theorem dX0_tell_5 : decode cX0_tell 5 = .ok (.iadd, 1) := by decide +kernel
theorem dX0_tell_6 : decode cX0_tell 6 = .ok (.lshl, 1) := by decide +kernel
theorem dX0_tell_7 : decode cX0_tell 7 = .ok (.lconst 1, 1) := by decide +kernel
theorem dX0_tell_8 : decode cX0_tell 8 = .ok (.lsub, 1) := by decide +kernel
theorem dX0_tell_9 : decode cX0_tell 9 = .ok (.lstore_n 3, 1) := by decide +kernel
theorem dX0_tell_10 : decode cX0_tell 10 = .ok (.aload_n 0, 1) := by decide +kernel
theorem dX0_tell_11 : decode cX0_tell 11 = .ok (.getfield 40, 3) := by decide +kernel
theorem dX0_tell_14 : decode cX0_tell 14 = .ok (.iload_n 1, 1) := by decide +kernel
theorem dX0_tell_15 : decode cX0_tell 15 = .ok (.lushr, 1) := by decide +kernel
theorem dX0_tell_16 : decode cX0_tell 16 = .ok (.lload_n 3, 1) := by decide +kernel
theorem dX0_tell_17 : decode cX0_tell 17 = .ok (.land, 1) := by decide +kernel
theorem dX0_tell_18 : decode cX0_tell 18 = .ok (.invokestatic 44, 3) := by decide +kernel
theorem dX0_tell_21 : decode cX0_tell 21 = .ok (.istore 5, 2) := by decide +kernel
theorem dX0_tell_23 : decode cX0_tell 23 = .ok (.iload 5, 2) := by decide +kernel
theorem dX0_tell_25 : decode cX0_tell 25 = .ok (.aload_n 0, 1) := by decide +kernel
theorem dX0_tell_26 : decode cX0_tell 26 = .ok (.getfield 22, 3) := by decide +kernel
theorem dX0_tell_29 : decode cX0_tell 29 = .ok (.if_icmp .ge 8, 3) := by decide +kernel
theorem dX0_tell_32 : decode cX0_tell 32 = .ok (.bipush (-2), 2) := by decide +kernel
theorem dX0_tell_34 : decode cX0_tell 34 = .ok (.goto 5, 3) := by decide +kernel
theorem dX0_tell_37 : decode cX0_tell 37 = .ok (.iload 5, 2) := by decide +kernel
theorem dX0_tell_39 : decode cX0_tell 39 = .ok (.ireturn, 1) := by decide +kernel
set_option maxRecDepth 20000 in
theorem ggX0_question_X0_tell : GoodIn wsX0_question wsX0_tell := goodIn_r _ [7, 8, 9, 10, 11, 12, 13, 14, 15, 16, 49, 50, 51, 52, 53, 54, 55, 56, 57, 58] (by decide +kernel) (by decide +kernel)
set_option maxRecDepth 20000 in
theorem gX0_question_X0_tell : GoodIn wsX0_question (wsV RX0 60 RX0 yX0_tell wsX0_tell) := goodIn_app (goodIn_of _ (by decide +kernel)) ggX0_question_X0_tell
set_option maxRecDepth 20000 in
theorem ggX0_question_X0_answerAbout : GoodIn wsX0_question wsX0_answerAbout := goodIn_r _ [20, 21, 22, 23, 24, 6, 25, 26, 49, 50, 51, 52, 53, 54, 55, 56, 57, 58] (by decide +kernel) (by decide +kernel)
set_option maxRecDepth 20000 in
theorem gX0_question_X0_answerAbout : GoodIn wsX0_question (wsV RX0 54 RX0 yX0_answerAbout wsX0_answerAbout) := goodIn_app (goodIn_of _ (by decide +kernel)) ggX0_question_X0_answerAbout
set_option maxRecDepth 20000 in
theorem ggX0_question_X0_fullPrice : GoodIn wsX0_question wsX0_fullPrice := goodIn_r _ [30, 31, 49, 50, 51, 52, 53, 54, 55, 56, 57, 58] (by decide +kernel) (by decide +kernel)
set_option maxRecDepth 20000 in
theorem gX0_question_X0_fullPrice : GoodIn wsX0_question (wsV RX0 57 RX0 yX0_fullPrice wsX0_fullPrice) := goodIn_app (goodIn_of _ (by decide +kernel)) ggX0_question_X0_fullPrice
set_option maxRecDepth 20000 in
theorem ggX0_question_X0_makeRoom : GoodIn wsX0_question wsX0_makeRoom := goodIn_r _ [35, 21, 36, 37, 38, 6, 39, 40, 41, 42, 43, 26, 44, 49, 50, 51, 52, 53, 54, 55, 56, 57, 58] (by decide +kernel) (by decide +kernel)
set_option maxRecDepth 20000 in
theorem gX0_question_X0_makeRoom : GoodIn wsX0_question (wsV RX0 63 RX0 yX0_makeRoom wsX0_makeRoom) := goodIn_app (goodIn_of _ (by decide +kernel)) ggX0_question_X0_makeRoom
set_option maxRecDepth 20000 in
theorem ggX0_question_X0_putCell : GoodIn wsX0_question wsX0_putCell := goodIn_r _ [48, 26, 49, 50, 51, 52, 53, 54, 55, 56, 57, 58] (by decide +kernel) (by decide +kernel)
set_option maxRecDepth 20000 in
theorem gX0_question_X0_putCell : GoodIn wsX0_question (wsV RX0 67 RX0 yX0_putCell wsX0_putCell) := goodIn_app (goodIn_of _ (by decide +kernel)) ggX0_question_X0_putCell
theorem dX0_question_0 : decode cX0_question 0 = .ok (.aload_n 0, 1) := by decide +kernel
theorem dX0_question_1 : decode cX0_question 1 = .ok (.iload_n 1, 1) := by decide +kernel
theorem dX0_question_2 : decode cX0_question 2 = .ok (.iload_n 2, 1) := by decide +kernel
theorem dX0_question_3 : decode cX0_question 3 = .ok (.invokevirtual 60, 3) := by decide +kernel
theorem dX0_question_6 : decode cX0_question 6 = .ok (.istore_n 3, 1) := by decide +kernel
theorem dX0_question_7 : decode cX0_question 7 = .ok (.iconst 0, 1) := by decide +kernel
theorem dX0_question_8 : decode cX0_question 8 = .ok (.istore 4, 2) := by decide +kernel
theorem dX0_question_10 : decode cX0_question 10 = .ok (.aload_n 0, 1) := by decide +kernel
theorem dX0_question_11 : decode cX0_question 11 = .ok (.iload_n 1, 1) := by decide +kernel
theorem dX0_question_12 : decode cX0_question 12 = .ok (.iload_n 2, 1) := by decide +kernel
theorem dX0_question_13 : decode cX0_question 13 = .ok (.invokevirtual 54, 3) := by decide +kernel
theorem dX0_question_16 : decode cX0_question 16 = .ok (.istore 5, 2) := by decide +kernel
theorem dX0_question_18 : decode cX0_question 18 = .ok (.iload 5, 2) := by decide +kernel
theorem dX0_question_20 : decode cX0_question 20 = .ok (.iconst (-1), 1) := by decide +kernel
theorem dX0_question_21 : decode cX0_question 21 = .ok (.if_icmp .ne 17, 3) := by decide +kernel
theorem dX0_question_24 : decode cX0_question 24 = .ok (.aload_n 0, 1) := by decide +kernel
theorem dX0_question_25 : decode cX0_question 25 = .ok (.iload_n 1, 1) := by decide +kernel
theorem dX0_question_26 : decode cX0_question 26 = .ok (.iload_n 2, 1) := by decide +kernel
theorem dX0_question_27 : decode cX0_question 27 = .ok (.invokevirtual 57, 3) := by decide +kernel
theorem dX0_question_30 : decode cX0_question 30 = .ok (.istore 4, 2) := by decide +kernel
theorem dX0_question_32 : decode cX0_question 32 = .ok (.aload_n 0, 1) := by decide +kernel
theorem dX0_question_33 : decode cX0_question 33 = .ok (.invokevirtual 63, 3) := by decide +kernel
theorem dX0_question_36 : decode cX0_question 36 = .ok (.istore 5, 2) := by decide +kernel
theorem dX0_question_38 : decode cX0_question 38 = .ok (.aload_n 0, 1) := by decide +kernel
theorem dX0_question_39 : decode cX0_question 39 = .ok (.iload 5, 2) := by decide +kernel
theorem dX0_question_41 : decode cX0_question 41 = .ok (.iconst 0, 1) := by decide +kernel
theorem dX0_question_42 : decode cX0_question 42 = .ok (.iload_n 1, 1) := by decide +kernel
theorem dX0_question_43 : decode cX0_question 43 = .ok (.invokevirtual 67, 3) := by decide +kernel
theorem dX0_question_46 : decode cX0_question 46 = .ok (.aload_n 0, 1) := by decide +kernel
theorem dX0_question_47 : decode cX0_question 47 = .ok (.iload 5, 2) := by decide +kernel
theorem dX0_question_49 : decode cX0_question 49 = .ok (.iconst 1, 1) := by decide +kernel
theorem dX0_question_50 : decode cX0_question 50 = .ok (.iload_n 2, 1) := by decide +kernel
theorem dX0_question_51 : decode cX0_question 51 = .ok (.invokevirtual 67, 3) := by decide +kernel
theorem dX0_question_54 : decode cX0_question 54 = .ok (.aload_n 0, 1) := by decide +kernel
theorem dX0_question_55 : decode cX0_question 55 = .ok (.iload 5, 2) := by decide +kernel
theorem dX0_question_57 : decode cX0_question 57 = .ok (.iconst 2, 1) := by decide +kernel
theorem dX0_question_58 : decode cX0_question 58 = .ok (.iload_n 3, 1) := by decide +kernel
theorem dX0_question_59 : decode cX0_question 59 = .ok (.invokevirtual 67, 3) := by decide +kernel
theorem dX0_question_62 : decode cX0_question 62 = .ok (.aload_n 0, 1) := by decide +kernel
theorem dX0_question_63 : decode cX0_question 63 = .ok (.iload 5, 2) := by decide +kernel
theorem dX0_question_65 : decode cX0_question 65 = .ok (.iconst 3, 1) := by decide +kernel
theorem dX0_question_66 : decode cX0_question 66 = .ok (.iload 4, 2) := by decide +kernel
theorem dX0_question_68 : decode cX0_question 68 = .ok (.invokevirtual 67, 3) := by decide +kernel
theorem dX0_question_71 : decode cX0_question 71 = .ok (.aload_n 0, 1) := by decide +kernel
theorem dX0_question_72 : decode cX0_question 72 = .ok (.dup, 1) := by decide +kernel
theorem dX0_question_73 : decode cX0_question 73 = .ok (.getfield 31, 3) := by decide +kernel
theorem dX0_question_76 : decode cX0_question 76 = .ok (.iload 4, 2) := by decide +kernel
theorem dX0_question_78 : decode cX0_question 78 = .ok (.iadd, 1) := by decide +kernel
theorem dX0_question_79 : decode cX0_question 79 = .ok (.putfield 31, 3) := by decide +kernel
theorem dX0_question_82 : decode cX0_question 82 = .ok (.aload_n 0, 1) := by decide +kernel
theorem dX0_question_83 : decode cX0_question 83 = .ok (.dup, 1) := by decide +kernel
theorem dX0_question_84 : decode cX0_question 84 = .ok (.getfield 34, 3) := by decide +kernel
theorem dX0_question_87 : decode cX0_question 87 = .ok (.iconst 1, 1) := by decide +kernel
theorem dX0_question_88 : decode cX0_question 88 = .ok (.iadd, 1) := by decide +kernel
theorem dX0_question_89 : decode cX0_question 89 = .ok (.putfield 34, 3) := by decide +kernel
theorem dX0_question_92 : decode cX0_question 92 = .ok (.iload_n 3, 1) := by decide +kernel
theorem dX0_question_93 : decode cX0_question 93 = .ok (.ireturn, 1) := by decide +kernel
set_option maxRecDepth 20000 in
theorem ggX0_makeRoom_X0_drop : GoodIn wsX0_makeRoom wsX0_drop := goodIn_r _ [6, 7, 8, 9, 10, 11, 1, 12, 13, 14, 15, 16, 17, 18, 19, 20, 21, 22] (by decide +kernel) (by decide +kernel)
set_option maxRecDepth 20000 in
theorem gX0_makeRoom_X0_drop : GoodIn wsX0_makeRoom (wsV RX0 71 RX0 yX0_drop wsX0_drop) := goodIn_app (goodIn_of _ (by decide +kernel)) ggX0_makeRoom_X0_drop
theorem dX0_makeRoom_0 : decode cX0_makeRoom 0 = .ok (.aload_n 0, 1) := by decide +kernel
theorem dX0_makeRoom_1 : decode cX0_makeRoom 1 = .ok (.getfield 28, 3) := by decide +kernel
theorem dX0_makeRoom_4 : decode cX0_makeRoom 4 = .ok (.bipush 12, 2) := by decide +kernel
theorem dX0_makeRoom_6 : decode cX0_makeRoom 6 = .ok (.if_icmp .lt 8, 3) := by decide +kernel
theorem dX0_makeRoom_9 : decode cX0_makeRoom 9 = .ok (.aload_n 0, 1) := by decide +kernel
theorem dX0_makeRoom_10 : decode cX0_makeRoom 10 = .ok (.iconst 0, 1) := by decide +kernel
theorem dX0_makeRoom_11 : decode cX0_makeRoom 11 = .ok (.invokevirtual 71, 3) := by decide +kernel
theorem dX0_makeRoom_14 : decode cX0_makeRoom 14 = .ok (.aload_n 0, 1) := by decide +kernel
theorem dX0_makeRoom_15 : decode cX0_makeRoom 15 = .ok (.dup, 1) := by decide +kernel
theorem dX0_makeRoom_16 : decode cX0_makeRoom 16 = .ok (.getfield 28, 3) := by decide +kernel
theorem dX0_makeRoom_19 : decode cX0_makeRoom 19 = .ok (.iconst 1, 1) := by decide +kernel
theorem dX0_makeRoom_20 : decode cX0_makeRoom 20 = .ok (.iadd, 1) := by decide +kernel
theorem dX0_makeRoom_21 : decode cX0_makeRoom 21 = .ok (.putfield 28, 3) := by decide +kernel
theorem dX0_makeRoom_24 : decode cX0_makeRoom 24 = .ok (.aload_n 0, 1) := by decide +kernel
theorem dX0_makeRoom_25 : decode cX0_makeRoom 25 = .ok (.getfield 28, 3) := by decide +kernel
theorem dX0_makeRoom_28 : decode cX0_makeRoom 28 = .ok (.iconst 1, 1) := by decide +kernel
theorem dX0_makeRoom_29 : decode cX0_makeRoom 29 = .ok (.isub, 1) := by decide +kernel
theorem dX0_makeRoom_30 : decode cX0_makeRoom 30 = .ok (.ireturn, 1) := by decide +kernel
theorem dX0_putCell_0 : decode cX0_putCell 0 = .ok (.iload_n 1, 1) := by decide +kernel
theorem dX0_putCell_1 : decode cX0_putCell 1 = .ok (.iconst 4, 1) := by decide +kernel
theorem dX0_putCell_2 : decode cX0_putCell 2 = .ok (.imul, 1) := by decide +kernel
theorem dX0_putCell_3 : decode cX0_putCell 3 = .ok (.iload_n 2, 1) := by decide +kernel
theorem dX0_putCell_4 : decode cX0_putCell 4 = .ok (.iadd, 1) := by decide +kernel
theorem dX0_putCell_5 : decode cX0_putCell 5 = .ok (.istore 4, 2) := by decide +kernel
theorem dX0_putCell_7 : decode cX0_putCell 7 = .ok (.iload 4, 2) := by decide +kernel
theorem dX0_putCell_9 : decode cX0_putCell 9 = .ok (.ifCond .lt 21, 3) := by decide +kernel
theorem dX0_putCell_12 : decode cX0_putCell 12 = .ok (.iload 4, 2) := by decide +kernel
theorem dX0_putCell_14 : decode cX0_putCell 14 = .ok (.aload_n 0, 1) := by decide +kernel
theorem dX0_putCell_15 : decode cX0_putCell 15 = .ok (.getfield 9, 3) := by decide +kernel
theorem dX0_putCell_18 : decode cX0_putCell 18 = .ok (.arraylength, 1) := by decide +kernel
theorem dX0_putCell_19 : decode cX0_putCell 19 = .ok (.if_icmp .ge 11, 3) := by decide +kernel
theorem dX0_putCell_22 : decode cX0_putCell 22 = .ok (.aload_n 0, 1) := by decide +kernel
theorem dX0_putCell_23 : decode cX0_putCell 23 = .ok (.getfield 9, 3) := by decide +kernel
theorem dX0_putCell_26 : decode cX0_putCell 26 = .ok (.iload 4, 2) := by decide +kernel
theorem dX0_putCell_28 : decode cX0_putCell 28 = .ok (.iload_n 3, 1) := by decide +kernel
theorem dX0_putCell_29 : decode cX0_putCell 29 = .ok (.iastore, 1) := by decide +kernel
theorem dX0_putCell_30 : decode cX0_putCell 30 = .ok (.return_, 1) := by decide +kernel
theorem dX0_drop_0 : decode cX0_drop 0 = .ok (.iconst 0, 1) := by decide +kernel
theorem dX0_drop_1 : decode cX0_drop 1 = .ok (.iload_n 1, 1) := by decide +kernel
theorem dX0_drop_2 : decode cX0_drop 2 = .ok (.iconst 4, 1) := by decide +kernel
theorem dX0_drop_3 : decode cX0_drop 3 = .ok (.imul, 1) := by decide +kernel
theorem dX0_drop_4 : decode cX0_drop 4 = .ok (.invokestatic 75, 3) := by decide +kernel
theorem dX0_drop_7 : decode cX0_drop 7 = .ok (.istore_n 2, 1) := by decide +kernel
theorem dX0_drop_8 : decode cX0_drop 8 = .ok (.iload_n 2, 1) := by decide +kernel
theorem dX0_drop_9 : decode cX0_drop 9 = .ok (.iconst 4, 1) := by decide +kernel
theorem dX0_drop_10 : decode cX0_drop 10 = .ok (.iadd, 1) := by decide +kernel
theorem dX0_drop_11 : decode cX0_drop 11 = .ok (.aload_n 0, 1) := by decide +kernel
theorem dX0_drop_12 : decode cX0_drop 12 = .ok (.getfield 9, 3) := by decide +kernel
theorem dX0_drop_15 : decode cX0_drop 15 = .ok (.arraylength, 1) := by decide +kernel
theorem dX0_drop_16 : decode cX0_drop 16 = .ok (.if_icmp .ge 23, 3) := by decide +kernel
theorem dX0_drop_19 : decode cX0_drop 19 = .ok (.aload_n 0, 1) := by decide +kernel
theorem dX0_drop_20 : decode cX0_drop 20 = .ok (.getfield 9, 3) := by decide +kernel
theorem dX0_drop_23 : decode cX0_drop 23 = .ok (.iload_n 2, 1) := by decide +kernel
theorem dX0_drop_24 : decode cX0_drop 24 = .ok (.aload_n 0, 1) := by decide +kernel
theorem dX0_drop_25 : decode cX0_drop 25 = .ok (.getfield 9, 3) := by decide +kernel
theorem dX0_drop_28 : decode cX0_drop 28 = .ok (.iload_n 2, 1) := by decide +kernel
theorem dX0_drop_29 : decode cX0_drop 29 = .ok (.iconst 4, 1) := by decide +kernel
theorem dX0_drop_30 : decode cX0_drop 30 = .ok (.iadd, 1) := by decide +kernel
theorem dX0_drop_31 : decode cX0_drop 31 = .ok (.iaload, 1) := by decide +kernel
theorem dX0_drop_32 : decode cX0_drop 32 = .ok (.iastore, 1) := by decide +kernel
theorem dX0_drop_33 : decode cX0_drop 33 = .ok (.iinc 2 1, 3) := by decide +kernel
theorem dX0_drop_36 : decode cX0_drop 36 = .ok (.goto (-28), 3) := by decide +kernel
theorem dX0_drop_39 : decode cX0_drop 39 = .ok (.aload_n 0, 1) := by decide +kernel
theorem dX0_drop_40 : decode cX0_drop 40 = .ok (.dup, 1) := by decide +kernel
theorem dX0_drop_41 : decode cX0_drop 41 = .ok (.getfield 28, 3) := by decide +kernel
theorem dX0_drop_44 : decode cX0_drop 44 = .ok (.iconst 1, 1) := by decide +kernel
theorem dX0_drop_45 : decode cX0_drop 45 = .ok (.isub, 1) := by decide +kernel
theorem dX0_drop_46 : decode cX0_drop 46 = .ok (.putfield 28, 3) := by decide +kernel
theorem dX0_drop_49 : decode cX0_drop 49 = .ok (.aload_n 0, 1) := by decide +kernel
theorem dX0_drop_50 : decode cX0_drop 50 = .ok (.dup, 1) := by decide +kernel
theorem dX0_drop_51 : decode cX0_drop 51 = .ok (.getfield 37, 3) := by decide +kernel
theorem dX0_drop_54 : decode cX0_drop 54 = .ok (.iconst 1, 1) := by decide +kernel
theorem dX0_drop_55 : decode cX0_drop 55 = .ok (.iadd, 1) := by decide +kernel
theorem dX0_drop_56 : decode cX0_drop 56 = .ok (.putfield 37, 3) := by decide +kernel
theorem dX0_drop_59 : decode cX0_drop 59 = .ok (.return_, 1) := by decide +kernel
theorem dX0_dropAll_0 : decode cX0_dropAll 0 = .ok (.aload_n 0, 1) := by decide +kernel
theorem dX0_dropAll_1 : decode cX0_dropAll 1 = .ok (.dup, 1) := by decide +kernel
theorem dX0_dropAll_2 : decode cX0_dropAll 2 = .ok (.getfield 37, 3) := by decide +kernel
theorem dX0_dropAll_5 : decode cX0_dropAll 5 = .ok (.aload_n 0, 1) := by decide +kernel
theorem dX0_dropAll_6 : decode cX0_dropAll 6 = .ok (.getfield 28, 3) := by decide +kernel
theorem dX0_dropAll_9 : decode cX0_dropAll 9 = .ok (.iadd, 1) := by decide +kernel
theorem dX0_dropAll_10 : decode cX0_dropAll 10 = .ok (.putfield 37, 3) := by decide +kernel
theorem dX0_dropAll_13 : decode cX0_dropAll 13 = .ok (.aload_n 0, 1) := by decide +kernel
theorem dX0_dropAll_14 : decode cX0_dropAll 14 = .ok (.iconst 0, 1) := by decide +kernel
theorem dX0_dropAll_15 : decode cX0_dropAll 15 = .ok (.putfield 28, 3) := by decide +kernel
theorem dX0_dropAll_18 : decode cX0_dropAll 18 = .ok (.return_, 1) := by decide +kernel
set_option maxRecDepth 20000 in
theorem ggX0_putKey_X0_hasKey : GoodIn wsX0_putKey wsX0_hasKey := goodIn_r _ [7, 1, 22, 23, 24, 25, 26, 27, 28, 29, 30, 31] (by decide +kernel) (by decide +kernel)
set_option maxRecDepth 20000 in
theorem gX0_putKey_X0_hasKey : GoodIn wsX0_putKey (wsV RX0 80 RX0 yX0_hasKey wsX0_hasKey) := goodIn_app (goodIn_of _ (by decide +kernel)) ggX0_putKey_X0_hasKey
set_option maxRecDepth 20000 in
theorem ggX0_putKey_X0_cell : GoodIn wsX0_putKey wsX0_cell := goodIn_r _ [11, 12, 22, 23, 24, 25, 26, 27, 28, 29, 30, 31] (by decide +kernel) (by decide +kernel)
set_option maxRecDepth 20000 in
theorem gX0_putKey_X0_cell : GoodIn wsX0_putKey (wsV RX0 50 RX0 yX0_cell wsX0_cell) := goodIn_app (goodIn_of _ (by decide +kernel)) ggX0_putKey_X0_cell
set_option maxRecDepth 20000 in
theorem ggX0_putKey_X0_drop : GoodIn wsX0_putKey wsX0_drop := goodIn_r _ [16, 17, 18, 19, 20, 12, 2, 21, 22, 23, 24, 25, 26, 27, 28, 29, 30, 31] (by decide +kernel) (by decide +kernel)
set_option maxRecDepth 20000 in
theorem gX0_putKey_X0_drop : GoodIn wsX0_putKey (wsV RX0 71 RX0 yX0_drop wsX0_drop) := goodIn_app (goodIn_of _ (by decide +kernel)) ggX0_putKey_X0_drop
theorem dX0_putKey_0 : decode cX0_putKey 0 = .ok (.aload_n 0, 1) := by decide +kernel
theorem dX0_putKey_1 : decode cX0_putKey 1 = .ok (.iload_n 1, 1) := by decide +kernel
theorem dX0_putKey_2 : decode cX0_putKey 2 = .ok (.invokevirtual 80, 3) := by decide +kernel
theorem dX0_putKey_5 : decode cX0_putKey 5 = .ok (.iload_n 2, 1) := by decide +kernel
theorem dX0_putKey_6 : decode cX0_putKey 6 = .ok (.if_icmp .ne 5, 3) := by decide +kernel
theorem dX0_putKey_9 : decode cX0_putKey 9 = .ok (.iconst 0, 1) := by decide +kernel
theorem dX0_putKey_10 : decode cX0_putKey 10 = .ok (.ireturn, 1) := by decide +kernel
theorem dX0_putKey_11 : decode cX0_putKey 11 = .ok (.aload_n 0, 1) := by decide +kernel
theorem dX0_putKey_12 : decode cX0_putKey 12 = .ok (.dup, 1) := by decide +kernel
theorem dX0_putKey_13 : decode cX0_putKey 13 = .ok (.getfield 40, 3) := by decide +kernel
theorem dX0_putKey_16 : decode cX0_putKey 16 = .ok (.lconst 1, 1) := by decide +kernel
theorem dX0_putKey_17 : decode cX0_putKey 17 = .ok (.iload_n 1, 1) := by decide +kernel
theorem dX0_putKey_18 : decode cX0_putKey 18 = .ok (.lshl, 1) := by decide +kernel
theorem dX0_putKey_19 : decode cX0_putKey 19 = .ok (.lxor, 1) := by decide +kernel
theorem dX0_putKey_20 : decode cX0_putKey 20 = .ok (.putfield 40, 3) := by decide +kernel
theorem dX0_putKey_23 : decode cX0_putKey 23 = .ok (.aload_n 0, 1) := by decide +kernel
theorem dX0_putKey_24 : decode cX0_putKey 24 = .ok (.getfield 28, 3) := by decide +kernel
theorem dX0_putKey_27 : decode cX0_putKey 27 = .ok (.istore_n 3, 1) := by decide +kernel
theorem dX0_putKey_28 : decode cX0_putKey 28 = .ok (.iload_n 3, 1) := by decide +kernel
theorem dX0_putKey_29 : decode cX0_putKey 29 = .ok (.iconst 1, 1) := by decide +kernel
theorem dX0_putKey_30 : decode cX0_putKey 30 = .ok (.isub, 1) := by decide +kernel
theorem dX0_putKey_31 : decode cX0_putKey 31 = .ok (.istore 4, 2) := by decide +kernel
theorem dX0_putKey_33 : decode cX0_putKey 33 = .ok (.iload 4, 2) := by decide +kernel
theorem dX0_putKey_35 : decode cX0_putKey 35 = .ok (.ifCond .lt 37, 3) := by decide +kernel
theorem dX0_putKey_38 : decode cX0_putKey 38 = .ok (.aload_n 0, 1) := by decide +kernel
theorem dX0_putKey_39 : decode cX0_putKey 39 = .ok (.iload 4, 2) := by decide +kernel
theorem dX0_putKey_41 : decode cX0_putKey 41 = .ok (.iconst 0, 1) := by decide +kernel
theorem dX0_putKey_42 : decode cX0_putKey 42 = .ok (.invokevirtual 50, 3) := by decide +kernel
theorem dX0_putKey_45 : decode cX0_putKey 45 = .ok (.iload_n 1, 1) := by decide +kernel
theorem dX0_putKey_46 : decode cX0_putKey 46 = .ok (.if_icmp .gt 20, 3) := by decide +kernel
theorem dX0_putKey_49 : decode cX0_putKey 49 = .ok (.iload_n 1, 1) := by decide +kernel
theorem dX0_putKey_50 : decode cX0_putKey 50 = .ok (.aload_n 0, 1) := by decide +kernel
theorem dX0_putKey_51 : decode cX0_putKey 51 = .ok (.iload 4, 2) := by decide +kernel
theorem dX0_putKey_53 : decode cX0_putKey 53 = .ok (.iconst 1, 1) := by decide +kernel
theorem dX0_putKey_54 : decode cX0_putKey 54 = .ok (.invokevirtual 50, 3) := by decide +kernel
theorem dX0_putKey_57 : decode cX0_putKey 57 = .ok (.if_icmp .gt 9, 3) := by decide +kernel
theorem dX0_putKey_60 : decode cX0_putKey 60 = .ok (.aload_n 0, 1) := by decide +kernel
theorem dX0_putKey_61 : decode cX0_putKey 61 = .ok (.iload 4, 2) := by decide +kernel
theorem dX0_putKey_63 : decode cX0_putKey 63 = .ok (.invokevirtual 71, 3) := by decide +kernel
theorem dX0_putKey_66 : decode cX0_putKey 66 = .ok (.iinc 4 (-1), 3) := by decide +kernel
theorem dX0_putKey_69 : decode cX0_putKey 69 = .ok (.goto (-36), 3) := by decide +kernel
theorem dX0_putKey_72 : decode cX0_putKey 72 = .ok (.iload_n 3, 1) := by decide +kernel
theorem dX0_putKey_73 : decode cX0_putKey 73 = .ok (.aload_n 0, 1) := by decide +kernel
theorem dX0_putKey_74 : decode cX0_putKey 74 = .ok (.getfield 28, 3) := by decide +kernel
theorem dX0_putKey_77 : decode cX0_putKey 77 = .ok (.isub, 1) := by decide +kernel
theorem dX0_putKey_78 : decode cX0_putKey 78 = .ok (.ireturn, 1) := by decide +kernel
set_option maxRecDepth 20000 in
theorem ggX0_change_X0_dropAll : GoodIn wsX0_change wsX0_dropAll := goodIn_r _ [8, 9, 10, 11, 12, 13, 14, 15, 16, 17, 18, 19, 20] (by decide +kernel) (by decide +kernel)
set_option maxRecDepth 20000 in
theorem gX0_change_X0_dropAll : GoodIn wsX0_change (wsV RX0 84 RX0 yX0_dropAll wsX0_dropAll) := goodIn_app (goodIn_of _ (by decide +kernel)) ggX0_change_X0_dropAll
theorem dX0_change_0 : decode cX0_change 0 = .ok (.iload_n 1, 1) := by decide +kernel
theorem dX0_change_1 : decode cX0_change 1 = .ok (.ifCond .ne 16, 3) := by decide +kernel
theorem dX0_change_4 : decode cX0_change 4 = .ok (.aload_n 0, 1) := by decide +kernel
theorem dX0_change_5 : decode cX0_change 5 = .ok (.getfield 19, 3) := by decide +kernel
theorem dX0_change_8 : decode cX0_change 8 = .ok (.istore_n 3, 1) := by decide +kernel
theorem dX0_change_9 : decode cX0_change 9 = .ok (.aload_n 0, 1) := by decide +kernel
theorem dX0_change_10 : decode cX0_change 10 = .ok (.iload_n 2, 1) := by decide +kernel
theorem dX0_change_11 : decode cX0_change 11 = .ok (.putfield 19, 3) := by decide +kernel
theorem dX0_change_14 : decode cX0_change 14 = .ok (.goto 40, 3) := by decide +kernel
theorem dX0_change_17 : decode cX0_change 17 = .ok (.iload_n 1, 1) := by decide +kernel
theorem dX0_change_18 : decode cX0_change 18 = .ok (.iconst 1, 1) := by decide +kernel
theorem dX0_change_19 : decode cX0_change 19 = .ok (.if_icmp .ne 25, 3) := by decide +kernel
theorem dX0_change_22 : decode cX0_change 22 = .ok (.aload_n 0, 1) := by decide +kernel
theorem dX0_change_23 : decode cX0_change 23 = .ok (.getfield 22, 3) := by decide +kernel
theorem dX0_change_26 : decode cX0_change 26 = .ok (.istore_n 3, 1) := by decide +kernel
theorem dX0_change_27 : decode cX0_change 27 = .ok (.aload_n 0, 1) := by decide +kernel
theorem dX0_change_28 : decode cX0_change 28 = .ok (.iload_n 2, 1) := by decide +kernel
theorem dX0_change_29 : decode cX0_change 29 = .ok (.putfield 22, 3) := by decide +kernel
theorem dX0_change_32 : decode cX0_change 32 = .ok (.iload_n 2, 1) := by decide +kernel
theorem dX0_change_33 : decode cX0_change 33 = .ok (.iload_n 3, 1) := by decide +kernel
theorem dX0_change_34 : decode cX0_change 34 = .ok (.if_icmp .eq 20, 3) := by decide +kernel
theorem dX0_change_37 : decode cX0_change 37 = .ok (.aload_n 0, 1) := by decide +kernel
theorem dX0_change_38 : decode cX0_change 38 = .ok (.invokevirtual 84, 3) := by decide +kernel
theorem dX0_change_41 : decode cX0_change 41 = .ok (.goto 13, 3) := by decide +kernel
theorem dX0_change_44 : decode cX0_change 44 = .ok (.aload_n 0, 1) := by decide +kernel
theorem dX0_change_45 : decode cX0_change 45 = .ok (.getfield 25, 3) := by decide +kernel
theorem dX0_change_48 : decode cX0_change 48 = .ok (.istore_n 3, 1) := by decide +kernel
theorem dX0_change_49 : decode cX0_change 49 = .ok (.aload_n 0, 1) := by decide +kernel
theorem dX0_change_50 : decode cX0_change 50 = .ok (.iload_n 2, 1) := by decide +kernel
theorem dX0_change_51 : decode cX0_change 51 = .ok (.putfield 25, 3) := by decide +kernel
theorem dX0_change_54 : decode cX0_change 54 = .ok (.iload_n 3, 1) := by decide +kernel
theorem dX0_change_55 : decode cX0_change 55 = .ok (.ireturn, 1) := by decide +kernel
set_option maxRecDepth 20000 in
theorem ggX0_cutTo_X0_dropAll : GoodIn wsX0_cutTo wsX0_dropAll := goodIn_r _ [7, 8, 9, 10, 11, 12, 13, 14, 15, 16, 17, 18, 19] (by decide +kernel) (by decide +kernel)
set_option maxRecDepth 20000 in
theorem gX0_cutTo_X0_dropAll : GoodIn wsX0_cutTo (wsV RX0 84 RX0 yX0_dropAll wsX0_dropAll) := goodIn_app (goodIn_of _ (by decide +kernel)) ggX0_cutTo_X0_dropAll
theorem dX0_cutTo_0 : decode cX0_cutTo 0 = .ok (.aload_n 0, 1) := by decide +kernel
theorem dX0_cutTo_1 : decode cX0_cutTo 1 = .ok (.iload_n 1, 1) := by decide +kernel
theorem dX0_cutTo_2 : decode cX0_cutTo 2 = .ok (.putfield 15, 3) := by decide +kernel
theorem dX0_cutTo_5 : decode cX0_cutTo 5 = .ok (.aload_n 0, 1) := by decide +kernel
theorem dX0_cutTo_6 : decode cX0_cutTo 6 = .ok (.dup, 1) := by decide +kernel
theorem dX0_cutTo_7 : decode cX0_cutTo 7 = .ok (.getfield 40, 3) := by decide +kernel
theorem dX0_cutTo_10 : decode cX0_cutTo 10 = .ok (.lconst 1, 1) := by decide +kernel
theorem dX0_cutTo_11 : decode cX0_cutTo 11 = .ok (.iload_n 1, 1) := by decide +kernel
theorem dX0_cutTo_12 : decode cX0_cutTo 12 = .ok (.lshl, 1) := by decide +kernel
theorem dX0_cutTo_13 : decode cX0_cutTo 13 = .ok (.lconst 1, 1) := by decide +kernel
theorem dX0_cutTo_14 : decode cX0_cutTo 14 = .ok (.lsub, 1) := by decide +kernel
theorem dX0_cutTo_15 : decode cX0_cutTo 15 = .ok (.land, 1) := by decide +kernel
theorem dX0_cutTo_16 : decode cX0_cutTo 16 = .ok (.putfield 40, 3) := by decide +kernel
theorem dX0_cutTo_19 : decode cX0_cutTo 19 = .ok (.aload_n 0, 1) := by decide +kernel
theorem dX0_cutTo_20 : decode cX0_cutTo 20 = .ok (.invokevirtual 84, 3) := by decide +kernel
theorem dX0_cutTo_23 : decode cX0_cutTo 23 = .ok (.return_, 1) := by decide +kernel
