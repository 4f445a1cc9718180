theorem dX0_init_0 : decode cX0_init 0 = .ok (.aload_n 0, 1) := by decide +kernel
theorem dX0_init_1 : decode cX0_init 1 = .ok (.invokespecial 3, 3) := by decide +kernel
theorem dX0_init_4 : decode cX0_init 4 = .ok (.aload_n 0, 1) := by decide +kernel
theorem dX0_init_5 : decode cX0_init 5 = .ok (.bipush 48, 2) := by decide +kernel
theorem dX0_init_7 : decode cX0_init 7 = .ok (.newarray .int, 2) := by decide +kernel
theorem dX0_init_9 : decode cX0_init 9 = .ok (.putfield 9, 3) := by decide +kernel
theorem dX0_init_12 : decode cX0_init 12 = .ok (.return_, 1) := by decide +kernel
theorem dX0_makeNew_0 : decode cX0_makeNew 0 = .ok (.aload_n 0, 1) := by decide +kernel
theorem dX0_makeNew_1 : decode cX0_makeNew 1 = .ok (.iload_n 1, 1) := by decide +kernel
theorem dX0_makeNew_2 : decode cX0_makeNew 2 = .ok (.putfield 15, 3) := by decide +kernel
theorem dX0_makeNew_5 : decode cX0_makeNew 5 = .ok (.aload_n 0, 1) := by decide +kernel
theorem dX0_makeNew_6 : decode cX0_makeNew 6 = .ok (.iconst 3, 1) := by decide +kernel
theorem dX0_makeNew_7 : decode cX0_makeNew 7 = .ok (.putfield 19, 3) := by decide +kernel
theorem dX0_makeNew_10 : decode cX0_makeNew 10 = .ok (.aload_n 0, 1) := by decide +kernel
theorem dX0_makeNew_11 : decode cX0_makeNew 11 = .ok (.iconst 2, 1) := by decide +kernel
theorem dX0_makeNew_12 : decode cX0_makeNew 12 = .ok (.putfield 22, 3) := by decide +kernel
theorem dX0_makeNew_15 : decode cX0_makeNew 15 = .ok (.aload_n 0, 1) := by decide +kernel
theorem dX0_makeNew_16 : decode cX0_makeNew 16 = .ok (.iconst 1, 1) := by decide +kernel
theorem dX0_makeNew_17 : decode cX0_makeNew 17 = .ok (.putfield 25, 3) := by decide +kernel
theorem dX0_makeNew_20 : decode cX0_makeNew 20 = .ok (.aload_n 0, 1) := by decide +kernel
theorem dX0_makeNew_21 : decode cX0_makeNew 21 = .ok (.iconst 0, 1) := by decide +kernel
theorem dX0_makeNew_22 : decode cX0_makeNew 22 = .ok (.putfield 28, 3) := by decide +kernel
theorem dX0_makeNew_25 : decode cX0_makeNew 25 = .ok (.aload_n 0, 1) := by decide +kernel
theorem dX0_makeNew_26 : decode cX0_makeNew 26 = .ok (.iconst 0, 1) := by decide +kernel
theorem dX0_makeNew_27 : decode cX0_makeNew 27 = .ok (.putfield 31, 3) := by decide +kernel
theorem dX0_makeNew_30 : decode cX0_makeNew 30 = .ok (.aload_n 0, 1) := by decide +kernel
theorem dX0_makeNew_31 : decode cX0_makeNew 31 = .ok (.iconst 0, 1) := by decide +kernel
theorem dX0_makeNew_32 : decode cX0_makeNew 32 = .ok (.putfield 34, 3) := by decide +kernel
theorem dX0_makeNew_35 : decode cX0_makeNew 35 = .ok (.aload_n 0, 1) := by decide +kernel
theorem dX0_makeNew_36 : decode cX0_makeNew 36 = .ok (.iconst 0, 1) := by decide +kernel
theorem dX0_makeNew_37 : decode cX0_makeNew 37 = .ok (.putfield 37, 3) := by decide +kernel
theorem dX0_makeNew_40 : decode cX0_makeNew 40 = .ok (.aload_n 0, 1) := by decide +kernel
theorem dX0_makeNew_41 : decode cX0_makeNew 41 = .ok (.lconst 0, 1) := by decide +kernel
theorem dX0_makeNew_42 : decode cX0_makeNew 42 = .ok (.putfield 40, 3) := by decide +kernel
theorem dX0_makeNew_45 : decode cX0_makeNew 45 = .ok (.return_, 1) := by decide +kernel
theorem dX0_takeFrom_0 : decode cX0_takeFrom 0 = .ok (.aload_n 0, 1) := by decide +kernel
theorem dX0_takeFrom_1 : decode cX0_takeFrom 1 = .ok (.aload_n 1, 1) := by decide +kernel
theorem dX0_takeFrom_2 : decode cX0_takeFrom 2 = .ok (.getfield 15, 3) := by decide +kernel
theorem dX0_takeFrom_5 : decode cX0_takeFrom 5 = .ok (.putfield 15, 3) := by decide +kernel
theorem dX0_takeFrom_8 : decode cX0_takeFrom 8 = .ok (.aload_n 0, 1) := by decide +kernel
theorem dX0_takeFrom_9 : decode cX0_takeFrom 9 = .ok (.aload_n 1, 1) := by decide +kernel
theorem dX0_takeFrom_10 : decode cX0_takeFrom 10 = .ok (.getfield 19, 3) := by decide +kernel
theorem dX0_takeFrom_13 : decode cX0_takeFrom 13 = .ok (.putfield 19, 3) := by decide +kernel
theorem dX0_takeFrom_16 : decode cX0_takeFrom 16 = .ok (.aload_n 0, 1) := by decide +kernel
theorem dX0_takeFrom_17 : decode cX0_takeFrom 17 = .ok (.aload_n 1, 1) := by decide +kernel
theorem dX0_takeFrom_18 : decode cX0_takeFrom 18 = .ok (.getfield 22, 3) := by decide +kernel
theorem dX0_takeFrom_21 : decode cX0_takeFrom 21 = .ok (.putfield 22, 3) := by decide +kernel
theorem dX0_takeFrom_24 : decode cX0_takeFrom 24 = .ok (.aload_n 0, 1) := by decide +kernel
theorem dX0_takeFrom_25 : decode cX0_takeFrom 25 = .ok (.aload_n 1, 1) := by decide +kernel
theorem dX0_takeFrom_26 : decode cX0_takeFrom 26 = .ok (.getfield 25, 3) := by decide +kernel
theorem dX0_takeFrom_29 : decode cX0_takeFrom 29 = .ok (.putfield 25, 3) := by decide +kernel
theorem dX0_takeFrom_32 : decode cX0_takeFrom 32 = .ok (.aload_n 0, 1) := by decide +kernel
theorem dX0_takeFrom_33 : decode cX0_takeFrom 33 = .ok (.aload_n 1, 1) := by decide +kernel
theorem dX0_takeFrom_34 : decode cX0_takeFrom 34 = .ok (.getfield 28, 3) := by decide +kernel
theorem dX0_takeFrom_37 : decode cX0_takeFrom 37 = .ok (.putfield 28, 3) := by decide +kernel
theorem dX0_takeFrom_40 : decode cX0_takeFrom 40 = .ok (.aload_n 0, 1) := by decide +kernel
theorem dX0_takeFrom_41 : decode cX0_takeFrom 41 = .ok (.aload_n 1, 1) := by decide +kernel
theorem dX0_takeFrom_42 : decode cX0_takeFrom 42 = .ok (.getfield 31, 3) := by decide +kernel
theorem dX0_takeFrom_45 : decode cX0_takeFrom 45 = .ok (.putfield 31, 3) := by decide +kernel
theorem dX0_takeFrom_48 : decode cX0_takeFrom 48 = .ok (.aload_n 0, 1) := by decide +kernel
theorem dX0_takeFrom_49 : decode cX0_takeFrom 49 = .ok (.aload_n 1, 1) := by decide +kernel
theorem dX0_takeFrom_50 : decode cX0_takeFrom 50 = .ok (.getfield 34, 3) := by decide +kernel
theorem dX0_takeFrom_53 : decode cX0_takeFrom 53 = .ok (.putfield 34, 3) := by decide +kernel
theorem dX0_takeFrom_56 : decode cX0_takeFrom 56 = .ok (.aload_n 0, 1) := by decide +kernel
theorem dX0_takeFrom_57 : decode cX0_takeFrom 57 = .ok (.aload_n 1, 1) := by decide +kernel
theorem dX0_takeFrom_58 : decode cX0_takeFrom 58 = .ok (.getfield 37, 3) := by decide +kernel
theorem dX0_takeFrom_61 : decode cX0_takeFrom 61 = .ok (.putfield 37, 3) := by decide +kernel
theorem dX0_takeFrom_64 : decode cX0_takeFrom 64 = .ok (.aload_n 0, 1) := by decide +kernel
theorem dX0_takeFrom_65 : decode cX0_takeFrom 65 = .ok (.aload_n 1, 1) := by decide +kernel
theorem dX0_takeFrom_66 : decode cX0_takeFrom 66 = .ok (.getfield 40, 3) := by decide +kernel
theorem dX0_takeFrom_69 : decode cX0_takeFrom 69 = .ok (.putfield 40, 3) := by decide +kernel
theorem dX0_takeFrom_72 : decode cX0_takeFrom 72 = .ok (.iconst 0, 1) := by decide +kernel
theorem dX0_takeFrom_73 : decode cX0_takeFrom 73 = .ok (.istore_n 2, 1) := by decide +kernel
theorem dX0_takeFrom_74 : decode cX0_takeFrom 74 = .ok (.iload_n 2, 1) := by decide +kernel
theorem dX0_takeFrom_75 : decode cX0_takeFrom 75 = .ok (.aload_n 0, 1) := by decide +kernel
theorem dX0_takeFrom_76 : decode cX0_takeFrom 76 = .ok (.getfield 9, 3) := by decide +kernel
theorem dX0_takeFrom_79 : decode cX0_takeFrom 79 = .ok (.arraylength, 1) := by decide +kernel
theorem dX0_takeFrom_80 : decode cX0_takeFrom 80 = .ok (.if_icmp .ge 30, 3) := by decide +kernel
theorem dX0_takeFrom_83 : decode cX0_takeFrom 83 = .ok (.iload_n 2, 1) := by decide +kernel
theorem dX0_takeFrom_84 : decode cX0_takeFrom 84 = .ok (.aload_n 1, 1) := by decide +kernel
theorem dX0_takeFrom_85 : decode cX0_takeFrom 85 = .ok (.getfield 9, 3) := by decide +kernel
theorem dX0_takeFrom_88 : decode cX0_takeFrom 88 = .ok (.arraylength, 1) := by decide +kernel
theorem dX0_takeFrom_89 : decode cX0_takeFrom 89 = .ok (.if_icmp .ge 21, 3) := by decide +kernel
theorem dX0_takeFrom_92 : decode cX0_takeFrom 92 = .ok (.aload_n 0, 1) := by decide +kernel
theorem dX0_takeFrom_93 : decode cX0_takeFrom 93 = .ok (.getfield 9, 3) := by decide +kernel
theorem dX0_takeFrom_96 : decode cX0_takeFrom 96 = .ok (.iload_n 2, 1) := by decide +kernel
theorem dX0_takeFrom_97 : decode cX0_takeFrom 97 = .ok (.aload_n 1, 1) := by decide +kernel
theorem dX0_takeFrom_98 : decode cX0_takeFrom 98 = .ok (.getfield 9, 3) := by decide +kernel
theorem dX0_takeFrom_101 : decode cX0_takeFrom 101 = .ok (.iload_n 2, 1) := by decide +kernel
theorem dX0_takeFrom_102 : decode cX0_takeFrom 102 = .ok (.iaload, 1) := by decide +kernel
theorem dX0_takeFrom_103 : decode cX0_takeFrom 103 = .ok (.iastore, 1) := by decide +kernel
theorem dX0_takeFrom_104 : decode cX0_takeFrom 104 = .ok (.iinc 2 1, 3) := by decide +kernel
theorem dX0_takeFrom_107 : decode cX0_takeFrom 107 = .ok (.goto (-33), 3) := by decide +kernel
theorem dX0_takeFrom_110 : decode cX0_takeFrom 110 = .ok (.return_, 1) := by decide +kernel
theorem dX0_isPlace_0 : decode cX0_isPlace 0 = .ok (.iload_n 1, 1) := by decide +kernel
theorem dX0_isPlace_1 : decode cX0_isPlace 1 = .ok (.ifCond .lt 15, 3) := by decide +kernel
theorem dX0_isPlace_4 : decode cX0_isPlace 4 = .ok (.iload_n 1, 1) := by decide +kernel
theorem dX0_isPlace_5 : decode cX0_isPlace 5 = .ok (.aload_n 0, 1) := by decide +kernel
theorem dX0_isPlace_6 : decode cX0_isPlace 6 = .ok (.getfield 15, 3) := by decide +kernel
theorem dX0_isPlace_9 : decode cX0_isPlace 9 = .ok (.if_icmp .ge 7, 3) := by decide +kernel
theorem dX0_isPlace_12 : decode cX0_isPlace 12 = .ok (.iconst 1, 1) := by decide +kernel
theorem dX0_isPlace_13 : decode cX0_isPlace 13 = .ok (.goto 4, 3) := by decide +kernel
theorem dX0_isPlace_16 : decode cX0_isPlace 16 = .ok (.iconst 0, 1) := by decide +kernel
theorem dX0_isPlace_17 : decode cX0_isPlace 17 = .ok (.ireturn, 1) := by decide +kernel
theorem dX0_isAnswer_0 : decode cX0_isAnswer 0 = .ok (.iload_n 1, 1) := by decide +kernel
theorem dX0_isAnswer_1 : decode cX0_isAnswer 1 = .ok (.ifCond .lt 15, 3) := by decide +kernel
theorem dX0_isAnswer_4 : decode cX0_isAnswer 4 = .ok (.iload_n 1, 1) := by decide +kernel
theorem dX0_isAnswer_5 : decode cX0_isAnswer 5 = .ok (.aload_n 0, 1) := by decide +kernel
theorem dX0_isAnswer_6 : decode cX0_isAnswer 6 = .ok (.getfield 28, 3) := by decide +kernel
theorem dX0_isAnswer_9 : decode cX0_isAnswer 9 = .ok (.if_icmp .ge 7, 3) := by decide +kernel
theorem dX0_isAnswer_12 : decode cX0_isAnswer 12 = .ok (.iconst 1, 1) := by decide +kernel
theorem dX0_isAnswer_13 : decode cX0_isAnswer 13 = .ok (.goto 4, 3) := by decide +kernel
theorem dX0_isAnswer_16 : decode cX0_isAnswer 16 = .ok (.iconst 0, 1) := by decide +kernel
theorem dX0_isAnswer_17 : decode cX0_isAnswer 17 = .ok (.ireturn, 1) := by decide +kernel
theorem dX0_isNarrow_0 : decode cX0_isNarrow 0 = .ok (.iload_n 2, 1) := by decide +kernel
theorem dX0_isNarrow_1 : decode cX0_isNarrow 1 = .ok (.iload_n 1, 1) := by decide +kernel
theorem dX0_isNarrow_2 : decode cX0_isNarrow 2 = .ok (.isub, 1) := by decide +kernel
theorem dX0_isNarrow_3 : decode cX0_isNarrow 3 = .ok (.iconst 1, 1) := by decide +kernel
theorem dX0_isNarrow_4 : decode cX0_isNarrow 4 = .ok (.iadd, 1) := by decide +kernel
theorem dX0_isNarrow_5 : decode cX0_isNarrow 5 = .ok (.aload_n 0, 1) := by decide +kernel
theorem dX0_isNarrow_6 : decode cX0_isNarrow 6 = .ok (.getfield 19, 3) := by decide +kernel
theorem dX0_isNarrow_9 : decode cX0_isNarrow 9 = .ok (.if_icmp .ge 7, 3) := by decide +kernel
theorem dX0_isNarrow_12 : decode cX0_isNarrow 12 = .ok (.iconst 1, 1) := by decide +kernel
theorem dX0_isNarrow_13 : decode cX0_isNarrow 13 = .ok (.goto 4, 3) := by decide +kernel
theorem dX0_isNarrow_16 : decode cX0_isNarrow 16 = .ok (.iconst 0, 1) := by decide +kernel
theorem dX0_isNarrow_17 : decode cX0_isNarrow 17 = .ok (.ireturn, 1) := by decide +kernel
theorem dX0_hasKey_0 : decode cX0_hasKey 0 = .ok (.aload_n 0, 1) := by decide +kernel
theorem dX0_hasKey_1 : decode cX0_hasKey 1 = .ok (.getfield 40, 3) := by decide +kernel
theorem dX0_hasKey_4 : decode cX0_hasKey 4 = .ok (.iload_n 1, 1) := by decide +kernel
theorem dX0_hasKey_5 : decode cX0_hasKey 5 = .ok (.lushr, 1) := by decide +kernel
theorem dX0_hasKey_6 : decode cX0_hasKey 6 = .ok (.lconst 1, 1) := by decide +kernel
theorem dX0_hasKey_7 : decode cX0_hasKey 7 = .ok (.land, 1) := by decide +kernel
theorem dX0_hasKey_8 : decode cX0_hasKey 8 = .ok (.lconst 1, 1) := by decide +kernel
theorem dX0_hasKey_9 : decode cX0_hasKey 9 = .ok (.lcmp, 1) := by decide +kernel
theorem dX0_hasKey_10 : decode cX0_hasKey 10 = .ok (.ifCond .ne 7, 3) := by decide +kernel
theorem dX0_hasKey_13 : decode cX0_hasKey 13 = .ok (.iconst 1, 1) := by decide +kernel
theorem dX0_hasKey_14 : decode cX0_hasKey 14 = .ok (.goto 4, 3) := by decide +kernel
theorem dX0_hasKey_17 : decode cX0_hasKey 17 = .ok (.iconst 0, 1) := by decide +kernel
theorem dX0_hasKey_18 : decode cX0_hasKey 18 = .ok (.ireturn, 1) := by decide +kernel
set_option maxRecDepth 20000 in
theorem ggX0_countKeys_J13_bitCount_95d88 : GoodIn wsX0_countKeys wsJ13_bitCount_95d88 := goodIn_r _ [5, 6, 7, 8] (by decide +kernel) (by decide +kernel)
set_option maxRecDepth 20000 in
theorem gX0_countKeys_J13_bitCount_95d88 : GoodIn wsX0_countKeys (va_wsS RX0 44 yJ13_bitCount_95d88 wsJ13_bitCount_95d88) := goodIn_app (goodIn_of _ (by decide +kernel)) ggX0_countKeys_J13_bitCount_95d88
theorem dX0_countKeys_0 : decode cX0_countKeys 0 = .ok (.aload_n 0, 1) := by decide +kernel
theorem dX0_countKeys_1 : decode cX0_countKeys 1 = .ok (.getfield 40, 3) := by decide +kernel
theorem dX0_countKeys_4 : decode cX0_countKeys 4 = .ok (.invokestatic 44, 3) := by decide +kernel
theorem dX0_countKeys_7 : decode cX0_countKeys 7 = .ok (.ireturn, 1) := by decide +kernel
theorem dX0_cell_0 : decode cX0_cell 0 = .ok (.iload_n 1, 1) := by decide +kernel
theorem dX0_cell_1 : decode cX0_cell 1 = .ok (.iconst 4, 1) := by decide +kernel
theorem dX0_cell_2 : decode cX0_cell 2 = .ok (.imul, 1) := by decide +kernel
theorem dX0_cell_3 : decode cX0_cell 3 = .ok (.iload_n 2, 1) := by decide +kernel
theorem dX0_cell_4 : decode cX0_cell 4 = .ok (.iadd, 1) := by decide +kernel
theorem dX0_cell_5 : decode cX0_cell 5 = .ok (.istore_n 3, 1) := by decide +kernel
theorem dX0_cell_6 : decode cX0_cell 6 = .ok (.iload_n 3, 1) := by decide +kernel
theorem dX0_cell_7 : decode cX0_cell 7 = .ok (.ifCond .lt 21, 3) := by decide +kernel
theorem dX0_cell_10 : decode cX0_cell 10 = .ok (.iload_n 3, 1) := by decide +kernel
theorem dX0_cell_11 : decode cX0_cell 11 = .ok (.aload_n 0, 1) := by decide +kernel
theorem dX0_cell_12 : decode cX0_cell 12 = .ok (.getfield 9, 3) := by decide +kernel
theorem dX0_cell_15 : decode cX0_cell 15 = .ok (.arraylength, 1) := by decide +kernel
theorem dX0_cell_16 : decode cX0_cell 16 = .ok (.if_icmp .ge 12, 3) := by decide +kernel
theorem dX0_cell_19 : decode cX0_cell 19 = .ok (.aload_n 0, 1) := by decide +kernel
theorem dX0_cell_20 : decode cX0_cell 20 = .ok (.getfield 9, 3) := by decide +kernel
theorem dX0_cell_23 : decode cX0_cell 23 = .ok (.iload_n 3, 1) := by decide +kernel
theorem dX0_cell_24 : decode cX0_cell 24 = .ok (.iaload, 1) := by decide +kernel
theorem dX0_cell_25 : decode cX0_cell 25 = .ok (.goto 4, 3) := by decide +kernel
theorem dX0_cell_28 : decode cX0_cell 28 = .ok (.iconst (-1), 1) := by decide +kernel
theorem dX0_cell_29 : decode cX0_cell 29 = .ok (.ireturn, 1) := by decide +kernel
set_option maxRecDepth 20000 in
theorem ggX0_fewestTold_X0_cell : GoodIn wsX0_fewestTold wsX0_cell := goodIn_r _ [5, 6, 7, 8, 9, 10, 11, 12, 13, 14, 15, 16] (by decide +kernel) (by decide +kernel)
set_option maxRecDepth 20000 in
theorem gX0_fewestTold_X0_cell : GoodIn wsX0_fewestTold (wsV RX0 50 RX0 yX0_cell wsX0_cell) := goodIn_app (goodIn_of _ (by decide +kernel)) ggX0_fewestTold_X0_cell
theorem dX0_fewestTold_0 : decode cX0_fewestTold 0 = .ok (.aload_n 0, 1) := by decide +kernel
theorem dX0_fewestTold_1 : decode cX0_fewestTold 1 = .ok (.iload_n 1, 1) := by decide +kernel
theorem dX0_fewestTold_2 : decode cX0_fewestTold 2 = .ok (.iconst 2, 1) := by decide +kernel
theorem dX0_fewestTold_3 : decode cX0_fewestTold 3 = .ok (.invokevirtual 50, 3) := by decide +kernel
theorem dX0_fewestTold_6 : decode cX0_fewestTold 6 = .ok (.istore_n 2, 1) := by decide +kernel
theorem dX0_fewestTold_7 : decode cX0_fewestTold 7 = .ok (.iload_n 2, 1) := by decide +kernel
theorem dX0_fewestTold_8 : decode cX0_fewestTold 8 = .ok (.bipush (-2), 2) := by decide +kernel
theorem dX0_fewestTold_10 : decode cX0_fewestTold 10 = .ok (.if_icmp .ne 7, 3) := by decide +kernel
theorem dX0_fewestTold_13 : decode cX0_fewestTold 13 = .ok (.iconst 0, 1) := by decide +kernel
theorem dX0_fewestTold_14 : decode cX0_fewestTold 14 = .ok (.goto 4, 3) := by decide +kernel
theorem dX0_fewestTold_17 : decode cX0_fewestTold 17 = .ok (.iload_n 2, 1) := by decide +kernel
theorem dX0_fewestTold_18 : decode cX0_fewestTold 18 = .ok (.ireturn, 1) := by decide +kernel
set_option maxRecDepth 20000 in
theorem ggX0_greatestTold_X0_cell : GoodIn wsX0_greatestTold wsX0_cell := goodIn_r _ [6, 7, 8, 9, 10, 11, 12, 13, 14, 15, 16, 17] (by decide +kernel) (by decide +kernel)
set_option maxRecDepth 20000 in
theorem gX0_greatestTold_X0_cell : GoodIn wsX0_greatestTold (wsV RX0 50 RX0 yX0_cell wsX0_cell) := goodIn_app (goodIn_of _ (by decide +kernel)) ggX0_greatestTold_X0_cell
theorem dX0_greatestTold_0 : decode cX0_greatestTold 0 = .ok (.aload_n 0, 1) := by decide +kernel
theorem dX0_greatestTold_1 : decode cX0_greatestTold 1 = .ok (.iload_n 1, 1) := by decide +kernel
theorem dX0_greatestTold_2 : decode cX0_greatestTold 2 = .ok (.iconst 2, 1) := by decide +kernel
theorem dX0_greatestTold_3 : decode cX0_greatestTold 3 = .ok (.invokevirtual 50, 3) := by decide +kernel
theorem dX0_greatestTold_6 : decode cX0_greatestTold 6 = .ok (.istore_n 2, 1) := by decide +kernel
theorem dX0_greatestTold_7 : decode cX0_greatestTold 7 = .ok (.iload_n 2, 1) := by decide +kernel
theorem dX0_greatestTold_8 : decode cX0_greatestTold 8 = .ok (.bipush (-2), 2) := by decide +kernel
theorem dX0_greatestTold_10 : decode cX0_greatestTold 10 = .ok (.if_icmp .ne 12, 3) := by decide +kernel
theorem dX0_greatestTold_13 : decode cX0_greatestTold 13 = .ok (.aload_n 0, 1) := by decide +kernel
theorem dX0_greatestTold_14 : decode cX0_greatestTold 14 = .ok (.getfield 22, 3) := by decide +kernel
theorem dX0_greatestTold_17 : decode cX0_greatestTold 17 = .ok (.iconst 1, 1) := by decide +kernel
theorem dX0_greatestTold_18 : decode cX0_greatestTold 18 = .ok (.isub, 1) := by decide +kernel
theorem dX0_greatestTold_19 : decode cX0_greatestTold 19 = .ok (.goto 4, 3) := by decide +kernel
theorem dX0_greatestTold_22 : decode cX0_greatestTold 22 = .ok (.iload_n 2, 1) := by decide +kernel
theorem dX0_greatestTold_23 : decode cX0_greatestTold 23 = .ok (.ireturn, 1) := by decide +kernel
set_option maxRecDepth 20000 in
theorem ggX0_price_X0_answerAbout : GoodIn wsX0_price wsX0_answerAbout := goodIn_r _ [5, 6, 7, 8, 9, 4, 10, 11, 17, 18, 19, 20, 21, 22, 23, 24, 25, 26] (by decide +kernel) (by decide +kernel)
set_option maxRecDepth 20000 in
theorem gX0_price_X0_answerAbout : GoodIn wsX0_price (wsV RX0 54 RX0 yX0_answerAbout wsX0_answerAbout) := goodIn_app (goodIn_of _ (by decide +kernel)) ggX0_price_X0_answerAbout
set_option maxRecDepth 20000 in
theorem ggX0_price_X0_fullPrice : GoodIn wsX0_price wsX0_fullPrice := goodIn_r _ [15, 16, 17, 18, 19, 20, 21, 22, 23, 24, 25, 26] (by decide +kernel) (by decide +kernel)
set_option maxRecDepth 20000 in
theorem gX0_price_X0_fullPrice : GoodIn wsX0_price (wsV RX0 57 RX0 yX0_fullPrice wsX0_fullPrice) := goodIn_app (goodIn_of _ (by decide +kernel)) ggX0_price_X0_fullPrice
theorem dX0_price_0 : decode cX0_price 0 = .ok (.aload_n 0, 1) := by decide +kernel
theorem dX0_price_1 : decode cX0_price 1 = .ok (.iload_n 1, 1) := by decide +kernel
theorem dX0_price_2 : decode cX0_price 2 = .ok (.iload_n 2, 1) := by decide +kernel
theorem dX0_price_3 : decode cX0_price 3 = .ok (.invokevirtual 54, 3) := by decide +kernel
theorem dX0_price_6 : decode cX0_price 6 = .ok (.iconst (-1), 1) := by decide +kernel
theorem dX0_price_7 : decode cX0_price 7 = .ok (.if_icmp .ne 12, 3) := by decide +kernel
theorem dX0_price_10 : decode cX0_price 10 = .ok (.aload_n 0, 1) := by decide +kernel
theorem dX0_price_11 : decode cX0_price 11 = .ok (.iload_n 1, 1) := by decide +kernel
theorem dX0_price_12 : decode cX0_price 12 = .ok (.iload_n 2, 1) := by decide +kernel
theorem dX0_price_13 : decode cX0_price 13 = .ok (.invokevirtual 57, 3) := by decide +kernel
theorem dX0_price_16 : decode cX0_price 16 = .ok (.goto 4, 3) := by decide +kernel
theorem dX0_price_19 : decode cX0_price 19 = .ok (.iconst 0, 1) := by decide +kernel
theorem dX0_price_20 : decode cX0_price 20 = .ok (.ireturn, 1) := by decide +kernel
theorem dX0_fullPrice_0 : decode cX0_fullPrice 0 = .ok (.aload_n 0, 1) := by decide +kernel
theorem dX0_fullPrice_1 : decode cX0_fullPrice 1 = .ok (.getfield 25, 3) := by decide +kernel
theorem dX0_fullPrice_4 : decode cX0_fullPrice 4 = .ok (.iload_n 2, 1) := by decide +kernel
theorem dX0_fullPrice_5 : decode cX0_fullPrice 5 = .ok (.iload_n 1, 1) := by decide +kernel
theorem dX0_fullPrice_6 : decode cX0_fullPrice 6 = .ok (.isub, 1) := by decide +kernel
theorem dX0_fullPrice_7 : decode cX0_fullPrice 7 = .ok (.iconst 1, 1) := by decide +kernel
theorem dX0_fullPrice_8 : decode cX0_fullPrice 8 = .ok (.iadd, 1) := by decide +kernel
theorem dX0_fullPrice_9 : decode cX0_fullPrice 9 = .ok (.iconst 4, 1) := by decide +kernel
theorem dX0_fullPrice_10 : decode cX0_fullPrice 10 = .ok (.idiv, 1) := by decide +kernel
theorem dX0_fullPrice_11 : decode cX0_fullPrice 11 = .ok (.iadd, 1) := by decide +kernel
theorem dX0_fullPrice_12 : decode cX0_fullPrice 12 = .ok (.ireturn, 1) := by decide +kernel
set_option maxRecDepth 20000 in
theorem ggX0_answerAbout_X0_cell : GoodIn wsX0_answerAbout wsX0_cell := goodIn_r _ [6, 7, 8, 9, 10, 11, 12, 13, 14, 15, 16, 17] (by decide +kernel) (by decide +kernel)
set_option maxRecDepth 20000 in
theorem gX0_answerAbout_X0_cell : GoodIn wsX0_answerAbout (wsV RX0 50 RX0 yX0_cell wsX0_cell) := goodIn_app (goodIn_of _ (by decide +kernel)) ggX0_answerAbout_X0_cell
theorem dX0_answerAbout_0 : decode cX0_answerAbout 0 = .ok (.iconst 0, 1) := by decide +kernel
theorem dX0_answerAbout_1 : decode cX0_answerAbout 1 = .ok (.istore_n 3, 1) := by decide +kernel
theorem dX0_answerAbout_2 : decode cX0_answerAbout 2 = .ok (.iload_n 3, 1) := by decide +kernel
theorem dX0_answerAbout_3 : decode cX0_answerAbout 3 = .ok (.aload_n 0, 1) := by decide +kernel
theorem dX0_answerAbout_4 : decode cX0_answerAbout 4 = .ok (.getfield 28, 3) := by decide +kernel
theorem dX0_answerAbout_7 : decode cX0_answerAbout 7 = .ok (.if_icmp .ge 31, 3) := by decide +kernel
theorem dX0_answerAbout_10 : decode cX0_answerAbout 10 = .ok (.aload_n 0, 1) := by decide +kernel
theorem dX0_answerAbout_11 : decode cX0_answerAbout 11 = .ok (.iload_n 3, 1) := by decide +kernel
theorem dX0_answerAbout_12 : decode cX0_answerAbout 12 = .ok (.iconst 0, 1) := by decide +kernel
theorem dX0_answerAbout_13 : decode cX0_answerAbout 13 = .ok (.invokevirtual 50, 3) := by decide +kernel
theorem dX0_answerAbout_16 : decode cX0_answerAbout 16 = .ok (.iload_n 1, 1) := by decide +kernel
theorem dX0_answerAbout_17 : decode cX0_answerAbout 17 = .ok (.if_icmp .ne 15, 3) := by decide +kernel
theorem dX0_answerAbout_20 : decode cX0_answerAbout 20 = .ok (.aload_n 0, 1) := by decide +kernel
theorem dX0_answerAbout_21 : decode cX0_answerAbout 21 = .ok (.iload_n 3, 1) := by decide +kernel
theorem dX0_answerAbout_22 : decode cX0_answerAbout 22 = .ok (.iconst 1, 1) := by decide +kernel
theorem dX0_answerAbout_23 : decode cX0_answerAbout 23 = .ok (.invokevirtual 50, 3) := by decide +kernel
theorem dX0_answerAbout_26 : decode cX0_answerAbout 26 = .ok (.iload_n 2, 1) := by decide +kernel
theorem dX0_answerAbout_27 : decode cX0_answerAbout 27 = .ok (.if_icmp .ne 5, 3) := by decide +kernel
theorem dX0_answerAbout_30 : decode cX0_answerAbout 30 = .ok (.iload_n 3, 1) := by decide +kernel
theorem dX0_answerAbout_31 : decode cX0_answerAbout 31 = .ok (.ireturn, 1) := by decide +kernel
theorem dX0_answerAbout_32 : decode cX0_answerAbout 32 = .ok (.iinc 3 1, 3) := by decide +kernel
theorem dX0_answerAbout_35 : decode cX0_answerAbout 35 = .ok (.goto (-33), 3) := by decide +kernel
theorem dX0_answerAbout_38 : decode cX0_answerAbout 38 = .ok (.iconst (-1), 1) := by decide +kernel
theorem dX0_answerAbout_39 : decode cX0_answerAbout 39 = .ok (.ireturn, 1) := by decide +kernel
set_option maxRecDepth 20000 in
theorem ggX0_tell_J13_bitCount_95d88 : GoodIn wsX0_tell wsJ13_bitCount_95d88 := goodIn_r _ [6, 7, 8, 9] (by decide +kernel) (by decide +kernel)
set_option maxRecDepth 20000 in
theorem gX0_tell_J13_bitCount_95d88 : GoodIn wsX0_tell (va_wsS RX0 44 yJ13_bitCount_95d88 wsJ13_bitCount_95d88) := goodIn_app (goodIn_of _ (by decide +kernel)) ggX0_tell_J13_bitCount_95d88
theorem dX0_tell_0 : decode cX0_tell 0 = .ok (.lconst 1, 1) := by decide +kernel
theorem dX0_tell_1 : decode cX0_tell 1 = .ok (.iload_n 2, 1) := by decide +kernel
theorem dX0_tell_2 : decode cX0_tell 2 = .ok (.iload_n 1, 1) := by decide +kernel
theorem dX0_tell_3 : decode cX0_tell 3 = .ok (.isub, 1) := by decide +kernel
theorem dX0_tell_4 : decode cX0_tell 4 = .ok (.iconst 1, 1) := by decide +kernel
theorem dX0_tell_5 : decode cX0_tell 5 = .ok (.iadd, 1) := by decide +kernel
theorem dX0_tell_6 : decode cX0_tell 6 = .ok (.lshl, 1) := by decide +kernel
theorem dX0_tell_7 : decode cX0_tell 7 = .ok (.lconst 1, 1) := by decide +kernel
theorem dX0_tell_8 : decode cX0_tell 8 = .ok (.lsub, 1) := by decide +kernel
theorem dX0_tell_9 : decode cX0_tell 9 = .ok (.lstore_n 3, 1) := by decide +kernel
theorem dX0_tell_10 : decode cX0_tell 10 = .ok (.aload_n 0, 1) := by decide +kernel
theorem dX0_tell_11 : decode cX0_tell 11 = .ok (.getfield 40, 3) := by decide +kernel
theorem dX0_tell_14 : decode cX0_tell 14 = .ok (.iload_n 1, 1) := by decide +kernel
theorem dX0_tell_15 : decode cX0_tell 15 = .ok (.lushr, 1) := by decide +kernel
theorem dX0_tell_16 : decode cX0_tell 16 = .ok (.lload_n 3, 1) := by decide +kernel
theorem dX0_tell_17 : decode cX0_tell 17 = .ok (.land, 1) := by decide +kernel
theorem dX0_tell_18 : decode cX0_tell 18 = .ok (.invokestatic 44, 3) := by decide +kernel
theorem dX0_tell_21 : decode cX0_tell 21 = .ok (.istore 5, 2) := by decide +kernel
theorem dX0_tell_23 : decode cX0_tell 23 = .ok (.iload 5, 2) := by decide +kernel
theorem dX0_tell_25 : decode cX0_tell 25 = .ok (.aload_n 0, 1) := by decide +kernel
theorem dX0_tell_26 : decode cX0_tell 26 = .ok (.getfield 22, 3) := by decide +kernel
theorem dX0_tell_29 : decode cX0_tell 29 = .ok (.if_icmp .ge 8, 3) := by decide +kernel
theorem dX0_tell_32 : decode cX0_tell 32 = .ok (.bipush (-2), 2) := by decide +kernel
theorem dX0_tell_34 : decode cX0_tell 34 = .ok (.goto 5, 3) := by decide +kernel
theorem dX0_tell_37 : decode cX0_tell 37 = .ok (.iload 5, 2) := by decide +kernel
theorem dX0_tell_39 : decode cX0_tell 39 = .ok (.ireturn, 1) := by decide +kernel
set_option maxRecDepth 20000 in
theorem ggX0_question_X0_tell : GoodIn wsX0_question wsX0_tell := goodIn_r _ [7, 8, 9, 10, 11, 12, 13, 14, 15, 16, 49, 50, 51, 52, 53, 54, 55, 56, 57, 58] (by decide +kernel) (by decide +kernel)
set_option maxRecDepth 20000 in
theorem gX0_question_X0_tell : GoodIn wsX0_question (wsV RX0 60 RX0 yX0_tell wsX0_tell) := goodIn_app (goodIn_of _ (by decide +kernel)) ggX0_question_X0_tell
set_option maxRecDepth 20000 in
theorem ggX0_question_X0_answerAbout : GoodIn wsX0_question wsX0_answerAbout := goodIn_r _ [20, 21, 22, 23, 24, 6, 25, 26, 49, 50, 51, 52, 53, 54, 55, 56, 57, 58] (by decide +kernel) (by decide +kernel)
set_option maxRecDepth 20000 in
theorem gX0_question_X0_answerAbout : GoodIn wsX0_question (wsV RX0 54 RX0 yX0_answerAbout wsX0_answerAbout) := goodIn_app (goodIn_of _ (by decide +kernel)) ggX0_question_X0_answerAbout
set_option maxRecDepth 20000 in
theorem ggX0_question_X0_fullPrice : GoodIn wsX0_question wsX0_fullPrice := goodIn_r _ [30, 31, 49, 50, 51, 52, 53, 54, 55, 56, 57, 58] (by decide +kernel) (by decide +kernel)
set_option maxRecDepth 20000 in
theorem gX0_question_X0_fullPrice : GoodIn wsX0_question (wsV RX0 57 RX0 yX0_fullPrice wsX0_fullPrice) := goodIn_app (goodIn_of _ (by decide +kernel)) ggX0_question_X0_fullPrice
set_option maxRecDepth 20000 in
theorem ggX0_question_X0_makeRoom : GoodIn wsX0_question wsX0_makeRoom := goodIn_r _ [35, 21, 36, 37, 38, 6, 39, 40, 41, 42, 43, 26, 44, 49, 50, 51, 52, 53, 54, 55, 56, 57, 58] (by decide +kernel) (by decide +kernel)
set_option maxRecDepth 20000 in
theorem gX0_question_X0_makeRoom : GoodIn wsX0_question (wsV RX0 63 RX0 yX0_makeRoom wsX0_makeRoom) := goodIn_app (goodIn_of _ (by decide +kernel)) ggX0_question_X0_makeRoom
set_option maxRecDepth 20000 in
theorem ggX0_question_X0_putCell : GoodIn wsX0_question wsX0_putCell := goodIn_r _ [48, 26, 49, 50, 51, 52, 53, 54, 55, 56, 57, 58] (by decide +kernel) (by decide +kernel)
set_option maxRecDepth 20000 in
theorem gX0_question_X0_putCell : GoodIn wsX0_question (wsV RX0 67 RX0 yX0_putCell wsX0_putCell) := goodIn_app (goodIn_of _ (by decide +kernel)) ggX0_question_X0_putCell
theorem dX0_question_0 : decode cX0_question 0 = .ok (.aload_n 0, 1) := by decide +kernel
theorem dX0_question_1 : decode cX0_question 1 = .ok (.iload_n 1, 1) := by decide +kernel
theorem dX0_question_2 : decode cX0_question 2 = .ok (.iload_n 2, 1) := by decide +kernel
theorem dX0_question_3 : decode cX0_question 3 = .ok (.invokevirtual 60, 3) := by decide +kernel
theorem dX0_question_6 : decode cX0_question 6 = .ok (.istore_n 3, 1) := by decide +kernel
theorem dX0_question_7 : decode cX0_question 7 = .ok (.iconst 0, 1) := by decide +kernel
theorem dX0_question_8 : decode cX0_question 8 = .ok (.istore 4, 2) := by decide +kernel
theorem dX0_question_10 : decode cX0_question 10 = .ok (.aload_n 0, 1) := by decide +kernel
theorem dX0_question_11 : decode cX0_question 11 = .ok (.iload_n 1, 1) := by decide +kernel
theorem dX0_question_12 : decode cX0_question 12 = .ok (.iload_n 2, 1) := by decide +kernel
theorem dX0_question_13 : decode cX0_question 13 = .ok (.invokevirtual 54, 3) := by decide +kernel
theorem dX0_question_16 : decode cX0_question 16 = .ok (.istore 5, 2) := by decide +kernel
theorem dX0_question_18 : decode cX0_question 18 = .ok (.iload 5, 2) := by decide +kernel
theorem dX0_question_20 : decode cX0_question 20 = .ok (.iconst (-1), 1) := by decide +kernel
theorem dX0_question_21 : decode cX0_question 21 = .ok (.if_icmp .ne 17, 3) := by decide +kernel
theorem dX0_question_24 : decode cX0_question 24 = .ok (.aload_n 0, 1) := by decide +kernel
theorem dX0_question_25 : decode cX0_question 25 = .ok (.iload_n 1, 1) := by decide +kernel
theorem dX0_question_26 : decode cX0_question 26 = .ok (.iload_n 2, 1) := by decide +kernel
theorem dX0_question_27 : decode cX0_question 27 = .ok (.invokevirtual 57, 3) := by decide +kernel
theorem dX0_question_30 : decode cX0_question 30 = .ok (.istore 4, 2) := by decide +kernel
theorem dX0_question_32 : decode cX0_question 32 = .ok (.aload_n 0, 1) := by decide +kernel
theorem dX0_question_33 : decode cX0_question 33 = .ok (.invokevirtual 63, 3) := by decide +kernel
theorem dX0_question_36 : decode cX0_question 36 = .ok (.istore 5, 2) := by decide +kernel
theorem dX0_question_38 : decode cX0_question 38 = .ok (.aload_n 0, 1) := by decide +kernel
theorem dX0_question_39 : decode cX0_question 39 = .ok (.iload 5, 2) := by decide +kernel
theorem dX0_question_41 : decode cX0_question 41 = .ok (.iconst 0, 1) := by decide +kernel
theorem dX0_question_42 : decode cX0_question 42 = .ok (.iload_n 1, 1) := by decide +kernel
theorem dX0_question_43 : decode cX0_question 43 = .ok (.invokevirtual 67, 3) := by decide +kernel
theorem dX0_question_46 : decode cX0_question 46 = .ok (.aload_n 0, 1) := by decide +kernel
theorem dX0_question_47 : decode cX0_question 47 = .ok (.iload 5, 2) := by decide +kernel
theorem dX0_question_49 : decode cX0_question 49 = .ok (.iconst 1, 1) := by decide +kernel
theorem dX0_question_50 : decode cX0_question 50 = .ok (.iload_n 2, 1) := by decide +kernel
theorem dX0_question_51 : decode cX0_question 51 = .ok (.invokevirtual 67, 3) := by decide +kernel
theorem dX0_question_54 : decode cX0_question 54 = .ok (.aload_n 0, 1) := by decide +kernel
theorem dX0_question_55 : decode cX0_question 55 = .ok (.iload 5, 2) := by decide +kernel
theorem dX0_question_57 : decode cX0_question 57 = .ok (.iconst 2, 1) := by decide +kernel
theorem dX0_question_58 : decode cX0_question 58 = .ok (.iload_n 3, 1) := by decide +kernel
theorem dX0_question_59 : decode cX0_question 59 = .ok (.invokevirtual 67, 3) := by decide +kernel
theorem dX0_question_62 : decode cX0_question 62 = .ok (.aload_n 0, 1) := by decide +kernel
theorem dX0_question_63 : decode cX0_question 63 = .ok (.iload 5, 2) := by decide +kernel
theorem dX0_question_65 : decode cX0_question 65 = .ok (.iconst 3, 1) := by decide +kernel
theorem dX0_question_66 : decode cX0_question 66 = .ok (.iload 4, 2) := by decide +kernel
theorem dX0_question_68 : decode cX0_question 68 = .ok (.invokevirtual 67, 3) := by decide +kernel
theorem dX0_question_71 : decode cX0_question 71 = .ok (.aload_n 0, 1) := by decide +kernel
theorem dX0_question_72 : decode cX0_question 72 = .ok (.dup, 1) := by decide +kernel
theorem dX0_question_73 : decode cX0_question 73 = .ok (.getfield 31, 3) := by decide +kernel
theorem dX0_question_76 : decode cX0_question 76 = .ok (.iload 4, 2) := by decide +kernel
theorem dX0_question_78 : decode cX0_question 78 = .ok (.iadd, 1) := by decide +kernel
theorem dX0_question_79 : decode cX0_question 79 = .ok (.putfield 31, 3) := by decide +kernel
theorem dX0_question_82 : decode cX0_question 82 = .ok (.aload_n 0, 1) := by decide +kernel
theorem dX0_question_83 : decode cX0_question 83 = .ok (.dup, 1) := by decide +kernel
theorem dX0_question_84 : decode cX0_question 84 = .ok (.getfield 34, 3) := by decide +kernel
theorem dX0_question_87 : decode cX0_question 87 = .ok (.iconst 1, 1) := by decide +kernel
theorem dX0_question_88 : decode cX0_question 88 = .ok (.iadd, 1) := by decide +kernel
theorem dX0_question_89 : decode cX0_question 89 = .ok (.putfield 34, 3) := by decide +kernel
theorem dX0_question_92 : decode cX0_question 92 = .ok (.iload_n 3, 1) := by decide +kernel
theorem dX0_question_93 : decode cX0_question 93 = .ok (.ireturn, 1) := by decide +kernel
set_option maxRecDepth 20000 in
theorem ggX0_makeRoom_X0_drop : GoodIn wsX0_makeRoom wsX0_drop := goodIn_r _ [6, 7, 8, 9, 10, 11, 1, 12, 13, 14, 15, 16, 17, 18, 19, 20, 21, 22] (by decide +kernel) (by decide +kernel)
set_option maxRecDepth 20000 in
theorem gX0_makeRoom_X0_drop : GoodIn wsX0_makeRoom (wsV RX0 71 RX0 yX0_drop wsX0_drop) := goodIn_app (goodIn_of _ (by decide +kernel)) ggX0_makeRoom_X0_drop
theorem dX0_makeRoom_0 : decode cX0_makeRoom 0 = .ok (.aload_n 0, 1) := by decide +kernel
theorem dX0_makeRoom_1 : decode cX0_makeRoom 1 = .ok (.getfield 28, 3) := by decide +kernel
theorem dX0_makeRoom_4 : decode cX0_makeRoom 4 = .ok (.bipush 12, 2) := by decide +kernel
theorem dX0_makeRoom_6 : decode cX0_makeRoom 6 = .ok (.if_icmp .lt 8, 3) := by decide +kernel
theorem dX0_makeRoom_9 : decode cX0_makeRoom 9 = .ok (.aload_n 0, 1) := by decide +kernel
theorem dX0_makeRoom_10 : decode cX0_makeRoom 10 = .ok (.iconst 0, 1) := by decide +kernel
theorem dX0_makeRoom_11 : decode cX0_makeRoom 11 = .ok (.invokevirtual 71, 3) := by decide +kernel
theorem dX0_makeRoom_14 : decode cX0_makeRoom 14 = .ok (.aload_n 0, 1) := by decide +kernel
theorem dX0_makeRoom_15 : decode cX0_makeRoom 15 = .ok (.dup, 1) := by decide +kernel
theorem dX0_makeRoom_16 : decode cX0_makeRoom 16 = .ok (.getfield 28, 3) := by decide +kernel
theorem dX0_makeRoom_19 : decode cX0_makeRoom 19 = .ok (.iconst 1, 1) := by decide +kernel
theorem dX0_makeRoom_20 : decode cX0_makeRoom 20 = .ok (.iadd, 1) := by decide +kernel
theorem dX0_makeRoom_21 : decode cX0_makeRoom 21 = .ok (.putfield 28, 3) := by decide +kernel
theorem dX0_makeRoom_24 : decode cX0_makeRoom 24 = .ok (.aload_n 0, 1) := by decide +kernel
theorem dX0_makeRoom_25 : decode cX0_makeRoom 25 = .ok (.getfield 28, 3) := by decide +kernel
theorem dX0_makeRoom_28 : decode cX0_makeRoom 28 = .ok (.iconst 1, 1) := by decide +kernel
theorem dX0_makeRoom_29 : decode cX0_makeRoom 29 = .ok (.isub, 1) := by decide +kernel
theorem dX0_makeRoom_30 : decode cX0_makeRoom 30 = .ok (.ireturn, 1) := by decide +kernel
theorem dX0_putCell_0 : decode cX0_putCell 0 = .ok (.iload_n 1, 1) := by decide +kernel
theorem dX0_putCell_1 : decode cX0_putCell 1 = .ok (.iconst 4, 1) := by decide +kernel
theorem dX0_putCell_2 : decode cX0_putCell 2 = .ok (.imul, 1) := by decide +kernel
theorem dX0_putCell_3 : decode cX0_putCell 3 = .ok (.iload_n 2, 1) := by decide +kernel
theorem dX0_putCell_4 : decode cX0_putCell 4 = .ok (.iadd, 1) := by decide +kernel
theorem dX0_putCell_5 : decode cX0_putCell 5 = .ok (.istore 4, 2) := by decide +kernel
theorem dX0_putCell_7 : decode cX0_putCell 7 = .ok (.iload 4, 2) := by decide +kernel
theorem dX0_putCell_9 : decode cX0_putCell 9 = .ok (.ifCond .lt 21, 3) := by decide +kernel
theorem dX0_putCell_12 : decode cX0_putCell 12 = .ok (.iload 4, 2) := by decide +kernel
theorem dX0_putCell_14 : decode cX0_putCell 14 = .ok (.aload_n 0, 1) := by decide +kernel
theorem dX0_putCell_15 : decode cX0_putCell 15 = .ok (.getfield 9, 3) := by decide +kernel
theorem dX0_putCell_18 : decode cX0_putCell 18 = .ok (.arraylength, 1) := by decide +kernel
theorem dX0_putCell_19 : decode cX0_putCell 19 = .ok (.if_icmp .ge 11, 3) := by decide +kernel
theorem dX0_putCell_22 : decode cX0_putCell 22 = .ok (.aload_n 0, 1) := by decide +kernel
theorem dX0_putCell_23 : decode cX0_putCell 23 = .ok (.getfield 9, 3) := by decide +kernel
theorem dX0_putCell_26 : decode cX0_putCell 26 = .ok (.iload 4, 2) := by decide +kernel
theorem dX0_putCell_28 : decode cX0_putCell 28 = .ok (.iload_n 3, 1) := by decide +kernel
theorem dX0_putCell_29 : decode cX0_putCell 29 = .ok (.iastore, 1) := by decide +kernel
theorem dX0_putCell_30 : decode cX0_putCell 30 = .ok (.return_, 1) := by decide +kernel
theorem dX0_drop_0 : decode cX0_drop 0 = .ok (.iconst 0, 1) := by decide +kernel
theorem dX0_drop_1 : decode cX0_drop 1 = .ok (.iload_n 1, 1) := by decide +kernel
theorem dX0_drop_2 : decode cX0_drop 2 = .ok (.iconst 4, 1) := by decide +kernel
theorem dX0_drop_3 : decode cX0_drop 3 = .ok (.imul, 1) := by decide +kernel
theorem dX0_drop_4 : decode cX0_drop 4 = .ok (.invokestatic 75, 3) := by decide +kernel
theorem dX0_drop_7 : decode cX0_drop 7 = .ok (.istore_n 2, 1) := by decide +kernel
theorem dX0_drop_8 : decode cX0_drop 8 = .ok (.iload_n 2, 1) := by decide +kernel
theorem dX0_drop_9 : decode cX0_drop 9 = .ok (.iconst 4, 1) := by decide +kernel
theorem dX0_drop_10 : decode cX0_drop 10 = .ok (.iadd, 1) := by decide +kernel
theorem dX0_drop_11 : decode cX0_drop 11 = .ok (.aload_n 0, 1) := by decide +kernel
theorem dX0_drop_12 : decode cX0_drop 12 = .ok (.getfield 9, 3) := by decide +kernel
theorem dX0_drop_15 : decode cX0_drop 15 = .ok (.arraylength, 1) := by decide +kernel
theorem dX0_drop_16 : decode cX0_drop 16 = .ok (.if_icmp .ge 23, 3) := by decide +kernel
theorem dX0_drop_19 : decode cX0_drop 19 = .ok (.aload_n 0, 1) := by decide +kernel
theorem dX0_drop_20 : decode cX0_drop 20 = .ok (.getfield 9, 3) := by decide +kernel
theorem dX0_drop_23 : decode cX0_drop 23 = .ok (.iload_n 2, 1) := by decide +kernel
theorem dX0_drop_24 : decode cX0_drop 24 = .ok (.aload_n 0, 1) := by decide +kernel
theorem dX0_drop_25 : decode cX0_drop 25 = .ok (.getfield 9, 3) := by decide +kernel
theorem dX0_drop_28 : decode cX0_drop 28 = .ok (.iload_n 2, 1) := by decide +kernel
theorem dX0_drop_29 : decode cX0_drop 29 = .ok (.iconst 4, 1) := by decide +kernel
theorem dX0_drop_30 : decode cX0_drop 30 = .ok (.iadd, 1) := by decide +kernel
theorem dX0_drop_31 : decode cX0_drop 31 = .ok (.iaload, 1) := by decide +kernel
theorem dX0_drop_32 : decode cX0_drop 32 = .ok (.iastore, 1) := by decide +kernel
theorem dX0_drop_33 : decode cX0_drop 33 = .ok (.iinc 2 1, 3) := by decide +kernel
theorem dX0_drop_36 : decode cX0_drop 36 = .ok (.goto (-28), 3) := by decide +kernel
theorem dX0_drop_39 : decode cX0_drop 39 = .ok (.aload_n 0, 1) := by decide +kernel
theorem dX0_drop_40 : decode cX0_drop 40 = .ok (.dup, 1) := by decide +kernel
theorem dX0_drop_41 : decode cX0_drop 41 = .ok (.getfield 28, 3) := by decide +kernel
theorem dX0_drop_44 : decode cX0_drop 44 = .ok (.iconst 1, 1) := by decide +kernel
theorem dX0_drop_45 : decode cX0_drop 45 = .ok (.isub, 1) := by decide +kernel
theorem dX0_drop_46 : decode cX0_drop 46 = .ok (.putfield 28, 3) := by decide +kernel
theorem dX0_drop_49 : decode cX0_drop 49 = .ok (.aload_n 0, 1) := by decide +kernel
theorem dX0_drop_50 : decode cX0_drop 50 = .ok (.dup, 1) := by decide +kernel
theorem dX0_drop_51 : decode cX0_drop 51 = .ok (.getfield 37, 3) := by decide +kernel
theorem dX0_drop_54 : decode cX0_drop 54 = .ok (.iconst 1, 1) := by decide +kernel
theorem dX0_drop_55 : decode cX0_drop 55 = .ok (.iadd, 1) := by decide +kernel
theorem dX0_drop_56 : decode cX0_drop 56 = .ok (.putfield 37, 3) := by decide +kernel
theorem dX0_drop_59 : decode cX0_drop 59 = .ok (.return_, 1) := by decide +kernel
theorem dX0_dropAll_0 : decode cX0_dropAll 0 = .ok (.aload_n 0, 1) := by decide +kernel
theorem dX0_dropAll_1 : decode cX0_dropAll 1 = .ok (.dup, 1) := by decide +kernel
theorem dX0_dropAll_2 : decode cX0_dropAll 2 = .ok (.getfield 37, 3) := by decide +kernel
theorem dX0_dropAll_5 : decode cX0_dropAll 5 = .ok (.aload_n 0, 1) := by decide +kernel
theorem dX0_dropAll_6 : decode cX0_dropAll 6 = .ok (.getfield 28, 3) := by decide +kernel
theorem dX0_dropAll_9 : decode cX0_dropAll 9 = .ok (.iadd, 1) := by decide +kernel
theorem dX0_dropAll_10 : decode cX0_dropAll 10 = .ok (.putfield 37, 3) := by decide +kernel
theorem dX0_dropAll_13 : decode cX0_dropAll 13 = .ok (.aload_n 0, 1) := by decide +kernel
theorem dX0_dropAll_14 : decode cX0_dropAll 14 = .ok (.iconst 0, 1) := by decide +kernel
theorem dX0_dropAll_15 : decode cX0_dropAll 15 = .ok (.putfield 28, 3) := by decide +kernel
theorem dX0_dropAll_18 : decode cX0_dropAll 18 = .ok (.return_, 1) := by decide +kernel
set_option maxRecDepth 20000 in
theorem ggX0_putKey_X0_hasKey : GoodIn wsX0_putKey wsX0_hasKey := goodIn_r _ [7, 1, 22, 23, 24, 25, 26, 27, 28, 29, 30, 31] (by decide +kernel) (by decide +kernel)
set_option maxRecDepth 20000 in
theorem gX0_putKey_X0_hasKey : GoodIn wsX0_putKey (wsV RX0 80 RX0 yX0_hasKey wsX0_hasKey) := goodIn_app (goodIn_of _ (by decide +kernel)) ggX0_putKey_X0_hasKey
set_option maxRecDepth 20000 in
theorem ggX0_putKey_X0_cell : GoodIn wsX0_putKey wsX0_cell := goodIn_r _ [11, 12, 22, 23, 24, 25, 26, 27, 28, 29, 30, 31] (by decide +kernel) (by decide +kernel)
set_option maxRecDepth 20000 in
theorem gX0_putKey_X0_cell : GoodIn wsX0_putKey (wsV RX0 50 RX0 yX0_cell wsX0_cell) := goodIn_app (goodIn_of _ (by decide +kernel)) ggX0_putKey_X0_cell
set_option maxRecDepth 20000 in
theorem ggX0_putKey_X0_drop : GoodIn wsX0_putKey wsX0_drop := goodIn_r _ [16, 17, 18, 19, 20, 12, 2, 21, 22, 23, 24, 25, 26, 27, 28, 29, 30, 31] (by decide +kernel) (by decide +kernel)
set_option maxRecDepth 20000 in
theorem gX0_putKey_X0_drop : GoodIn wsX0_putKey (wsV RX0 71 RX0 yX0_drop wsX0_drop) := goodIn_app (goodIn_of _ (by decide +kernel)) ggX0_putKey_X0_drop
theorem dX0_putKey_0 : decode cX0_putKey 0 = .ok (.aload_n 0, 1) := by decide +kernel
theorem dX0_putKey_1 : decode cX0_putKey 1 = .ok (.iload_n 1, 1) := by decide +kernel
theorem dX0_putKey_2 : decode cX0_putKey 2 = .ok (.invokevirtual 80, 3) := by decide +kernel
theorem dX0_putKey_5 : decode cX0_putKey 5 = .ok (.iload_n 2, 1) := by decide +kernel
theorem dX0_putKey_6 : decode cX0_putKey 6 = .ok (.if_icmp .ne 5, 3) := by decide +kernel
theorem dX0_putKey_9 : decode cX0_putKey 9 = .ok (.iconst 0, 1) := by decide +kernel
theorem dX0_putKey_10 : decode cX0_putKey 10 = .ok (.ireturn, 1) := by decide +kernel
theorem dX0_putKey_11 : decode cX0_putKey 11 = .ok (.aload_n 0, 1) := by decide +kernel
theorem dX0_putKey_12 : decode cX0_putKey 12 = .ok (.dup, 1) := by decide +kernel
theorem dX0_putKey_13 : decode cX0_putKey 13 = .ok (.getfield 40, 3) := by decide +kernel
theorem dX0_putKey_16 : decode cX0_putKey 16 = .ok (.lconst 1, 1) := by decide +kernel
theorem dX0_putKey_17 : decode cX0_putKey 17 = .ok (.iload_n 1, 1) := by decide +kernel
theorem dX0_putKey_18 : decode cX0_putKey 18 = .ok (.lshl, 1) := by decide +kernel
theorem dX0_putKey_19 : decode cX0_putKey 19 = .ok (.lxor, 1) := by decide +kernel
theorem dX0_putKey_20 : decode cX0_putKey 20 = .ok (.putfield 40, 3) := by decide +kernel
theorem dX0_putKey_23 : decode cX0_putKey 23 = .ok (.aload_n 0, 1) := by decide +kernel
theorem dX0_putKey_24 : decode cX0_putKey 24 = .ok (.getfield 28, 3) := by decide +kernel
theorem dX0_putKey_27 : decode cX0_putKey 27 = .ok (.istore_n 3, 1) := by decide +kernel
theorem dX0_putKey_28 : decode cX0_putKey 28 = .ok (.iload_n 3, 1) := by decide +kernel
theorem dX0_putKey_29 : decode cX0_putKey 29 = .ok (.iconst 1, 1) := by decide +kernel
theorem dX0_putKey_30 : decode cX0_putKey 30 = .ok (.isub, 1) := by decide +kernel
theorem dX0_putKey_31 : decode cX0_putKey 31 = .ok (.istore 4, 2) := by decide +kernel
theorem dX0_putKey_33 : decode cX0_putKey 33 = .ok (.iload 4, 2) := by decide +kernel
theorem dX0_putKey_35 : decode cX0_putKey 35 = .ok (.ifCond .lt 37, 3) := by decide +kernel
theorem dX0_putKey_38 : decode cX0_putKey 38 = .ok (.aload_n 0, 1) := by decide +kernel
theorem dX0_putKey_39 : decode cX0_putKey 39 = .ok (.iload 4, 2) := by decide +kernel
theorem dX0_putKey_41 : decode cX0_putKey 41 = .ok (.iconst 0, 1) := by decide +kernel
theorem dX0_putKey_42 : decode cX0_putKey 42 = .ok (.invokevirtual 50, 3) := by decide +kernel
theorem dX0_putKey_45 : decode cX0_putKey 45 = .ok (.iload_n 1, 1) := by decide +kernel
theorem dX0_putKey_46 : decode cX0_putKey 46 = .ok (.if_icmp .gt 20, 3) := by decide +kernel
theorem dX0_putKey_49 : decode cX0_putKey 49 = .ok (.iload_n 1, 1) := by decide +kernel
theorem dX0_putKey_50 : decode cX0_putKey 50 = .ok (.aload_n 0, 1) := by decide +kernel
theorem dX0_putKey_51 : decode cX0_putKey 51 = .ok (.iload 4, 2) := by decide +kernel
theorem dX0_putKey_53 : decode cX0_putKey 53 = .ok (.iconst 1, 1) := by decide +kernel
theorem dX0_putKey_54 : decode cX0_putKey 54 = .ok (.invokevirtual 50, 3) := by decide +kernel
theorem dX0_putKey_57 : decode cX0_putKey 57 = .ok (.if_icmp .gt 9, 3) := by decide +kernel
theorem dX0_putKey_60 : decode cX0_putKey 60 = .ok (.aload_n 0, 1) := by decide +kernel
theorem dX0_putKey_61 : decode cX0_putKey 61 = .ok (.iload 4, 2) := by decide +kernel
theorem dX0_putKey_63 : decode cX0_putKey 63 = .ok (.invokevirtual 71, 3) := by decide +kernel
theorem dX0_putKey_66 : decode cX0_putKey 66 = .ok (.iinc 4 (-1), 3) := by decide +kernel
theorem dX0_putKey_69 : decode cX0_putKey 69 = .ok (.goto (-36), 3) := by decide +kernel
theorem dX0_putKey_72 : decode cX0_putKey 72 = .ok (.iload_n 3, 1) := by decide +kernel
theorem dX0_putKey_73 : decode cX0_putKey 73 = .ok (.aload_n 0, 1) := by decide +kernel
theorem dX0_putKey_74 : decode cX0_putKey 74 = .ok (.getfield 28, 3) := by decide +kernel
theorem dX0_putKey_77 : decode cX0_putKey 77 = .ok (.isub, 1) := by decide +kernel
theorem dX0_putKey_78 : decode cX0_putKey 78 = .ok (.ireturn, 1) := by decide +kernel
set_option maxRecDepth 20000 in
theorem ggX0_change_X0_dropAll : GoodIn wsX0_change wsX0_dropAll := goodIn_r _ [8, 9, 10, 11, 12, 13, 14, 15, 16, 17, 18, 19, 20] (by decide +kernel) (by decide +kernel)
set_option maxRecDepth 20000 in
theorem gX0_change_X0_dropAll : GoodIn wsX0_change (wsV RX0 84 RX0 yX0_dropAll wsX0_dropAll) := goodIn_app (goodIn_of _ (by decide +kernel)) ggX0_change_X0_dropAll
theorem dX0_change_0 : decode cX0_change 0 = .ok (.iload_n 1, 1) := by decide +kernel
theorem dX0_change_1 : decode cX0_change 1 = .ok (.ifCond .ne 16, 3) := by decide +kernel
theorem dX0_change_4 : decode cX0_change 4 = .ok (.aload_n 0, 1) := by decide +kernel
theorem dX0_change_5 : decode cX0_change 5 = .ok (.getfield 19, 3) := by decide +kernel
theorem dX0_change_8 : decode cX0_change 8 = .ok (.istore_n 3, 1) := by decide +kernel
theorem dX0_change_9 : decode cX0_change 9 = .ok (.aload_n 0, 1) := by decide +kernel
theorem dX0_change_10 : decode cX0_change 10 = .ok (.iload_n 2, 1) := by decide +kernel
theorem dX0_change_11 : decode cX0_change 11 = .ok (.putfield 19, 3) := by decide +kernel
theorem dX0_change_14 : decode cX0_change 14 = .ok (.goto 40, 3) := by decide +kernel
theorem dX0_change_17 : decode cX0_change 17 = .ok (.iload_n 1, 1) := by decide +kernel
theorem dX0_change_18 : decode cX0_change 18 = .ok (.iconst 1, 1) := by decide +kernel
theorem dX0_change_19 : decode cX0_change 19 = .ok (.if_icmp .ne 25, 3) := by decide +kernel
theorem dX0_change_22 : decode cX0_change 22 = .ok (.aload_n 0, 1) := by decide +kernel
theorem dX0_change_23 : decode cX0_change 23 = .ok (.getfield 22, 3) := by decide +kernel
theorem dX0_change_26 : decode cX0_change 26 = .ok (.istore_n 3, 1) := by decide +kernel
theorem dX0_change_27 : decode cX0_change 27 = .ok (.aload_n 0, 1) := by decide +kernel
theorem dX0_change_28 : decode cX0_change 28 = .ok (.iload_n 2, 1) := by decide +kernel
theorem dX0_change_29 : decode cX0_change 29 = .ok (.putfield 22, 3) := by decide +kernel
theorem dX0_change_32 : decode cX0_change 32 = .ok (.iload_n 2, 1) := by decide +kernel
theorem dX0_change_33 : decode cX0_change 33 = .ok (.iload_n 3, 1) := by decide +kernel
theorem dX0_change_34 : decode cX0_change 34 = .ok (.if_icmp .eq 20, 3) := by decide +kernel
theorem dX0_change_37 : decode cX0_change 37 = .ok (.aload_n 0, 1) := by decide +kernel
theorem dX0_change_38 : decode cX0_change 38 = .ok (.invokevirtual 84, 3) := by decide +kernel
theorem dX0_change_41 : decode cX0_change 41 = .ok (.goto 13, 3) := by decide +kernel
theorem dX0_change_44 : decode cX0_change 44 = .ok (.aload_n 0, 1) := by decide +kernel
theorem dX0_change_45 : decode cX0_change 45 = .ok (.getfield 25, 3) := by decide +kernel
theorem dX0_change_48 : decode cX0_change 48 = .ok (.istore_n 3, 1) := by decide +kernel
theorem dX0_change_49 : decode cX0_change 49 = .ok (.aload_n 0, 1) := by decide +kernel
theorem dX0_change_50 : decode cX0_change 50 = .ok (.iload_n 2, 1) := by decide +kernel
theorem dX0_change_51 : decode cX0_change 51 = .ok (.putfield 25, 3) := by decide +kernel
theorem dX0_change_54 : decode cX0_change 54 = .ok (.iload_n 3, 1) := by decide +kernel
theorem dX0_change_55 : decode cX0_change 55 = .ok (.ireturn, 1) := by decide +kernel
set_option maxRecDepth 20000 in
theorem ggX0_cutTo_X0_dropAll : GoodIn wsX0_cutTo wsX0_dropAll := goodIn_r _ [7, 8, 9, 10, 11, 12, 13, 14, 15, 16, 17, 18, 19] (by decide +kernel) (by decide +kernel)
set_option maxRecDepth 20000 in
theorem gX0_cutTo_X0_dropAll : GoodIn wsX0_cutTo (wsV RX0 84 RX0 yX0_dropAll wsX0_dropAll) := goodIn_app (goodIn_of _ (by decide +kernel)) ggX0_cutTo_X0_dropAll
theorem dX0_cutTo_0 : decode cX0_cutTo 0 = .ok (.aload_n 0, 1) := by decide +kernel
theorem dX0_cutTo_1 : decode cX0_cutTo 1 = .ok (.iload_n 1, 1) := by decide +kernel
theorem dX0_cutTo_2 : decode cX0_cutTo 2 = .ok (.putfield 15, 3) := by decide +kernel
theorem dX0_cutTo_5 : decode cX0_cutTo 5 = .ok (.aload_n 0, 1) := by decide +kernel
theorem dX0_cutTo_6 : decode cX0_cutTo 6 = .ok (.dup, 1) := by decide +kernel
theorem dX0_cutTo_7 : decode cX0_cutTo 7 = .ok (.getfield 40, 3) := by decide +kernel
theorem dX0_cutTo_10 : decode cX0_cutTo 10 = .ok (.lconst 1, 1) := by decide +kernel
theorem dX0_cutTo_11 : decode cX0_cutTo 11 = .ok (.iload_n 1, 1) := by decide +kernel
theorem dX0_cutTo_12 : decode cX0_cutTo 12 = .ok (.lshl, 1) := by decide +kernel
theorem dX0_cutTo_13 : decode cX0_cutTo 13 = .ok (.lconst 1, 1) := by decide +kernel
theorem dX0_cutTo_14 : decode cX0_cutTo 14 = .ok (.lsub, 1) := by decide +kernel
theorem dX0_cutTo_15 : decode cX0_cutTo 15 = .ok (.land, 1) := by decide +kernel
theorem dX0_cutTo_16 : decode cX0_cutTo 16 = .ok (.putfield 40, 3) := by decide +kernel
theorem dX0_cutTo_19 : decode cX0_cutTo 19 = .ok (.aload_n 0, 1) := by decide +kernel
theorem dX0_cutTo_20 : decode cX0_cutTo 20 = .ok (.invokevirtual 84, 3) := by decide +kernel
theorem dX0_cutTo_23 : decode cX0_cutTo 23 = .ok (.return_, 1) := by decide +kernel
theorem dX1_init_0 : decode cX1_init 0 = .ok (.aload_n 0, 1) := by decide +kernel
theorem dX1_init_1 : decode cX1_init 1 = .ok (.invokespecial 3, 3) := by decide +kernel
theorem dX1_init_4 : decode cX1_init 4 = .ok (.aload_n 0, 1) := by decide +kernel
theorem dX1_init_5 : decode cX1_init 5 = .ok (.sipush 1681, 3) := by decide +kernel
theorem dX1_init_8 : decode cX1_init 8 = .ok (.newarray .int, 2) := by decide +kernel
theorem dX1_init_10 : decode cX1_init 10 = .ok (.putfield 11, 3) := by decide +kernel
theorem dX1_init_13 : decode cX1_init 13 = .ok (.return_, 1) := by decide +kernel
set_option maxRecDepth 20000 in
theorem ggX1_learnFrom_X1_learnNothing : GoodIn wsX1_learnFrom wsX1_learnNothing := goodIn_r _ [8, 2, 9, 10, 11, 12, 13, 14, 15, 7, 16, 17, 56, 57] (by decide +kernel) (by decide +kernel)
set_option maxRecDepth 20000 in
theorem gX1_learnFrom_X1_learnNothing : GoodIn wsX1_learnFrom (wsV RX1 22 RX1 yX1_learnNothing wsX1_learnNothing) := goodIn_app (goodIn_of _ (by decide +kernel)) ggX1_learnFrom_X1_learnNothing
set_option maxRecDepth 20000 in
theorem ggX1_learnFrom_X0_cell : GoodIn wsX1_learnFrom wsX0_cell := goodIn_r _ [22, 23, 46, 47, 48, 49, 50, 51, 52, 53, 54, 55] (by decide +kernel) (by decide +kernel)
set_option maxRecDepth 20000 in
theorem gX1_learnFrom_X0_cell : GoodIn wsX1_learnFrom (wsV RX1 28 RX0 yX0_cell wsX0_cell) := goodIn_app (goodIn_of _ (by decide +kernel)) ggX1_learnFrom_X0_cell
set_option maxRecDepth 20000 in
theorem ggX1_learnFrom_X0_greatestTold : GoodIn wsX1_learnFrom wsX0_greatestTold := goodIn_r _ [27, 28, 29, 19, 20, 21, 22, 23, 46, 47, 48, 49, 50, 51, 52, 53, 54, 55] (by decide +kernel) (by decide +kernel)
set_option maxRecDepth 20000 in
theorem gX1_learnFrom_X0_greatestTold : GoodIn wsX1_learnFrom (wsV RX1 32 RX0 yX0_greatestTold wsX0_greatestTold) := goodIn_app (goodIn_of _ (by decide +kernel)) ggX1_learnFrom_X0_greatestTold
set_option maxRecDepth 20000 in
theorem ggX1_learnFrom_X1_bound : GoodIn wsX1_learnFrom wsX1_bound := goodIn_r _ [33, 2, 34, 35, 36, 7, 37, 17, 38, 39, 40, 41, 13, 14, 15, 16, 56, 57] (by decide +kernel) (by decide +kernel)
set_option maxRecDepth 20000 in
theorem gX1_learnFrom_X1_bound : GoodIn wsX1_learnFrom (wsV RX1 36 RX1 yX1_bound wsX1_bound) := goodIn_app (goodIn_of _ (by decide +kernel)) ggX1_learnFrom_X1_bound
set_option maxRecDepth 20000 in
theorem ggX1_learnFrom_X0_fewestTold : GoodIn wsX1_learnFrom wsX0_fewestTold := goodIn_r _ [45, 29, 19, 20, 21, 22, 23, 46, 47, 48, 49, 50, 51, 52, 53, 54, 55] (by decide +kernel) (by decide +kernel)
set_option maxRecDepth 20000 in
theorem gX1_learnFrom_X0_fewestTold : GoodIn wsX1_learnFrom (wsV RX1 40 RX0 yX0_fewestTold wsX0_fewestTold) := goodIn_app (goodIn_of _ (by decide +kernel)) ggX1_learnFrom_X0_fewestTold
theorem dX1_learnFrom_0 : decode cX1_learnFrom 0 = .ok (.aload_n 0, 1) := by decide +kernel
theorem dX1_learnFrom_1 : decode cX1_learnFrom 1 = .ok (.aload_n 1, 1) := by decide +kernel
theorem dX1_learnFrom_2 : decode cX1_learnFrom 2 = .ok (.getfield 15, 3) := by decide +kernel
theorem dX1_learnFrom_5 : decode cX1_learnFrom 5 = .ok (.putfield 21, 3) := by decide +kernel
theorem dX1_learnFrom_8 : decode cX1_learnFrom 8 = .ok (.aload_n 0, 1) := by decide +kernel
theorem dX1_learnFrom_9 : decode cX1_learnFrom 9 = .ok (.invokevirtual 22, 3) := by decide +kernel
theorem dX1_learnFrom_12 : decode cX1_learnFrom 12 = .ok (.iconst 0, 1) := by decide +kernel
theorem dX1_learnFrom_13 : decode cX1_learnFrom 13 = .ok (.istore_n 3, 1) := by decide +kernel
theorem dX1_learnFrom_14 : decode cX1_learnFrom 14 = .ok (.iload_n 3, 1) := by decide +kernel
theorem dX1_learnFrom_15 : decode cX1_learnFrom 15 = .ok (.aload_n 1, 1) := by decide +kernel
theorem dX1_learnFrom_16 : decode cX1_learnFrom 16 = .ok (.getfield 25, 3) := by decide +kernel
theorem dX1_learnFrom_19 : decode cX1_learnFrom 19 = .ok (.if_icmp .ge 59, 3) := by decide +kernel
theorem dX1_learnFrom_22 : decode cX1_learnFrom 22 = .ok (.iload_n 3, 1) := by decide +kernel
theorem dX1_learnFrom_23 : decode cX1_learnFrom 23 = .ok (.iload_n 2, 1) := by decide +kernel
theorem dX1_learnFrom_24 : decode cX1_learnFrom 24 = .ok (.if_icmp .eq 48, 3) := by decide +kernel
theorem dX1_learnFrom_27 : decode cX1_learnFrom 27 = .ok (.aload_n 1, 1) := by decide +kernel
theorem dX1_learnFrom_28 : decode cX1_learnFrom 28 = .ok (.iload_n 3, 1) := by decide +kernel
theorem dX1_learnFrom_29 : decode cX1_learnFrom 29 = .ok (.iconst 0, 1) := by decide +kernel
theorem dX1_learnFrom_30 : decode cX1_learnFrom 30 = .ok (.invokevirtual 28, 3) := by decide +kernel
theorem dX1_learnFrom_33 : decode cX1_learnFrom 33 = .ok (.istore 4, 2) := by decide +kernel
theorem dX1_learnFrom_35 : decode cX1_learnFrom 35 = .ok (.aload_n 1, 1) := by decide +kernel
theorem dX1_learnFrom_36 : decode cX1_learnFrom 36 = .ok (.iload_n 3, 1) := by decide +kernel
theorem dX1_learnFrom_37 : decode cX1_learnFrom 37 = .ok (.iconst 1, 1) := by decide +kernel
theorem dX1_learnFrom_38 : decode cX1_learnFrom 38 = .ok (.invokevirtual 28, 3) := by decide +kernel
theorem dX1_learnFrom_41 : decode cX1_learnFrom 41 = .ok (.iconst 1, 1) := by decide +kernel
theorem dX1_learnFrom_42 : decode cX1_learnFrom 42 = .ok (.iadd, 1) := by decide +kernel
theorem dX1_learnFrom_43 : decode cX1_learnFrom 43 = .ok (.istore 5, 2) := by decide +kernel
theorem dX1_learnFrom_45 : decode cX1_learnFrom 45 = .ok (.aload_n 0, 1) := by decide +kernel
theorem dX1_learnFrom_46 : decode cX1_learnFrom 46 = .ok (.iload 4, 2) := by decide +kernel
theorem dX1_learnFrom_48 : decode cX1_learnFrom 48 = .ok (.iload 5, 2) := by decide +kernel
theorem dX1_learnFrom_50 : decode cX1_learnFrom 50 = .ok (.aload_n 1, 1) := by decide +kernel
theorem dX1_learnFrom_51 : decode cX1_learnFrom 51 = .ok (.iload_n 3, 1) := by decide +kernel
theorem dX1_learnFrom_52 : decode cX1_learnFrom 52 = .ok (.invokevirtual 32, 3) := by decide +kernel
theorem dX1_learnFrom_55 : decode cX1_learnFrom 55 = .ok (.invokevirtual 36, 3) := by decide +kernel
theorem dX1_learnFrom_58 : decode cX1_learnFrom 58 = .ok (.aload_n 0, 1) := by decide +kernel
theorem dX1_learnFrom_59 : decode cX1_learnFrom 59 = .ok (.iload 5, 2) := by decide +kernel
theorem dX1_learnFrom_61 : decode cX1_learnFrom 61 = .ok (.iload 4, 2) := by decide +kernel
theorem dX1_learnFrom_63 : decode cX1_learnFrom 63 = .ok (.aload_n 1, 1) := by decide +kernel
theorem dX1_learnFrom_64 : decode cX1_learnFrom 64 = .ok (.iload_n 3, 1) := by decide +kernel
theorem dX1_learnFrom_65 : decode cX1_learnFrom 65 = .ok (.invokevirtual 40, 3) := by decide +kernel
theorem dX1_learnFrom_68 : decode cX1_learnFrom 68 = .ok (.ineg, 1) := by decide +kernel
theorem dX1_learnFrom_69 : decode cX1_learnFrom 69 = .ok (.invokevirtual 36, 3) := by decide +kernel
theorem dX1_learnFrom_72 : decode cX1_learnFrom 72 = .ok (.iinc 3 1, 3) := by decide +kernel
theorem dX1_learnFrom_75 : decode cX1_learnFrom 75 = .ok (.goto (-61), 3) := by decide +kernel
theorem dX1_learnFrom_78 : decode cX1_learnFrom 78 = .ok (.return_, 1) := by decide +kernel
set_option maxRecDepth 20000 in
theorem ggX1_learnNothing_X1_putExcess : GoodIn wsX1_learnNothing wsX1_putExcess := goodIn_r _ [10, 11, 12, 13] (by decide +kernel) (by decide +kernel)
set_option maxRecDepth 20000 in
theorem gX1_learnNothing_X1_putExcess : GoodIn wsX1_learnNothing (wsV RX1 48 RX1 yX1_putExcess wsX1_putExcess) := goodIn_app (goodIn_of _ (by decide +kernel)) ggX1_learnNothing_X1_putExcess
theorem dX1_learnNothing_0 : decode cX1_learnNothing 0 = .ok (.iconst 0, 1) := by decide +kernel
theorem dX1_learnNothing_1 : decode cX1_learnNothing 1 = .ok (.istore_n 1, 1) := by decide +kernel
theorem dX1_learnNothing_2 : decode cX1_learnNothing 2 = .ok (.iload_n 1, 1) := by decide +kernel
theorem dX1_learnNothing_3 : decode cX1_learnNothing 3 = .ok (.aload_n 0, 1) := by decide +kernel
theorem dX1_learnNothing_4 : decode cX1_learnNothing 4 = .ok (.getfield 21, 3) := by decide +kernel
theorem dX1_learnNothing_7 : decode cX1_learnNothing 7 = .ok (.if_icmp .gt 38, 3) := by decide +kernel
theorem dX1_learnNothing_10 : decode cX1_learnNothing 10 = .ok (.iconst 0, 1) := by decide +kernel
theorem dX1_learnNothing_11 : decode cX1_learnNothing 11 = .ok (.istore_n 2, 1) := by decide +kernel
theorem dX1_learnNothing_12 : decode cX1_learnNothing 12 = .ok (.iload_n 2, 1) := by decide +kernel
theorem dX1_learnNothing_13 : decode cX1_learnNothing 13 = .ok (.aload_n 0, 1) := by decide +kernel
theorem dX1_learnNothing_14 : decode cX1_learnNothing 14 = .ok (.getfield 21, 3) := by decide +kernel
theorem dX1_learnNothing_17 : decode cX1_learnNothing 17 = .ok (.if_icmp .gt 22, 3) := by decide +kernel
theorem dX1_learnNothing_20 : decode cX1_learnNothing 20 = .ok (.aload_n 0, 1) := by decide +kernel
theorem dX1_learnNothing_21 : decode cX1_learnNothing 21 = .ok (.iload_n 1, 1) := by decide +kernel
theorem dX1_learnNothing_22 : decode cX1_learnNothing 22 = .ok (.iload_n 2, 1) := by decide +kernel
theorem dX1_learnNothing_23 : decode cX1_learnNothing 23 = .ok (.iconst 0, 1) := by decide +kernel
theorem dX1_learnNothing_24 : decode cX1_learnNothing 24 = .ok (.iload_n 2, 1) := by decide +kernel
theorem dX1_learnNothing_25 : decode cX1_learnNothing 25 = .ok (.iload_n 1, 1) := by decide +kernel
theorem dX1_learnNothing_26 : decode cX1_learnNothing 26 = .ok (.isub, 1) := by decide +kernel
theorem dX1_learnNothing_27 : decode cX1_learnNothing 27 = .ok (.invokestatic 43, 3) := by decide +kernel
theorem dX1_learnNothing_30 : decode cX1_learnNothing 30 = .ok (.invokevirtual 48, 3) := by decide +kernel
theorem dX1_learnNothing_33 : decode cX1_learnNothing 33 = .ok (.iinc 2 1, 3) := by decide +kernel
theorem dX1_learnNothing_36 : decode cX1_learnNothing 36 = .ok (.goto (-24), 3) := by decide +kernel
theorem dX1_learnNothing_39 : decode cX1_learnNothing 39 = .ok (.iinc 1 1, 3) := by decide +kernel
theorem dX1_learnNothing_42 : decode cX1_learnNothing 42 = .ok (.goto (-40), 3) := by decide +kernel
theorem dX1_learnNothing_45 : decode cX1_learnNothing 45 = .ok (.return_, 1) := by decide +kernel
set_option maxRecDepth 20000 in
theorem ggX1_bound_X1_excessOf : GoodIn wsX1_bound wsX1_excessOf := goodIn_r _ [6, 7, 16, 17] (by decide +kernel) (by decide +kernel)
set_option maxRecDepth 20000 in
theorem gX1_bound_X1_excessOf : GoodIn wsX1_bound (wsV RX1 51 RX1 yX1_excessOf wsX1_excessOf) := goodIn_app (goodIn_of _ (by decide +kernel)) ggX1_bound_X1_excessOf
set_option maxRecDepth 20000 in
theorem ggX1_bound_X1_shorten : GoodIn wsX1_bound wsX1_shorten := goodIn_r _ [11, 1, 2, 3, 4, 5, 6, 7, 12, 13, 14, 15, 16, 17] (by decide +kernel) (by decide +kernel)
set_option maxRecDepth 20000 in
theorem gX1_bound_X1_shorten : GoodIn wsX1_bound (wsV RX1 54 RX1 yX1_shorten wsX1_shorten) := goodIn_app (goodIn_of _ (by decide +kernel)) ggX1_bound_X1_shorten
theorem dX1_bound_0 : decode cX1_bound 0 = .ok (.iconst 0, 1) := by decide +kernel
theorem dX1_bound_1 : decode cX1_bound 1 = .ok (.istore 4, 2) := by decide +kernel
theorem dX1_bound_3 : decode cX1_bound 3 = .ok (.iload 4, 2) := by decide +kernel
theorem dX1_bound_5 : decode cX1_bound 5 = .ok (.aload_n 0, 1) := by decide +kernel
theorem dX1_bound_6 : decode cX1_bound 6 = .ok (.getfield 21, 3) := by decide +kernel
theorem dX1_bound_9 : decode cX1_bound 9 = .ok (.if_icmp .gt 41, 3) := by decide +kernel
theorem dX1_bound_12 : decode cX1_bound 12 = .ok (.aload_n 0, 1) := by decide +kernel
theorem dX1_bound_13 : decode cX1_bound 13 = .ok (.iload 4, 2) := by decide +kernel
theorem dX1_bound_15 : decode cX1_bound 15 = .ok (.iload_n 1, 1) := by decide +kernel
theorem dX1_bound_16 : decode cX1_bound 16 = .ok (.invokevirtual 51, 3) := by decide +kernel
theorem dX1_bound_19 : decode cX1_bound 19 = .ok (.iload_n 3, 1) := by decide +kernel
theorem dX1_bound_20 : decode cX1_bound 20 = .ok (.iadd, 1) := by decide +kernel
theorem dX1_bound_21 : decode cX1_bound 21 = .ok (.istore 5, 2) := by decide +kernel
theorem dX1_bound_23 : decode cX1_bound 23 = .ok (.iload 5, 2) := by decide +kernel
theorem dX1_bound_25 : decode cX1_bound 25 = .ok (.aload_n 0, 1) := by decide +kernel
theorem dX1_bound_26 : decode cX1_bound 26 = .ok (.iload 4, 2) := by decide +kernel
theorem dX1_bound_28 : decode cX1_bound 28 = .ok (.iload_n 2, 1) := by decide +kernel
theorem dX1_bound_29 : decode cX1_bound 29 = .ok (.invokevirtual 51, 3) := by decide +kernel
theorem dX1_bound_32 : decode cX1_bound 32 = .ok (.if_icmp .ge 12, 3) := by decide +kernel
theorem dX1_bound_35 : decode cX1_bound 35 = .ok (.aload_n 0, 1) := by decide +kernel
theorem dX1_bound_36 : decode cX1_bound 36 = .ok (.iload 4, 2) := by decide +kernel
theorem dX1_bound_38 : decode cX1_bound 38 = .ok (.iload_n 2, 1) := by decide +kernel
theorem dX1_bound_39 : decode cX1_bound 39 = .ok (.iload 5, 2) := by decide +kernel
theorem dX1_bound_41 : decode cX1_bound 41 = .ok (.invokevirtual 54, 3) := by decide +kernel
theorem dX1_bound_44 : decode cX1_bound 44 = .ok (.iinc 4 1, 3) := by decide +kernel
theorem dX1_bound_47 : decode cX1_bound 47 = .ok (.goto (-44), 3) := by decide +kernel
theorem dX1_bound_50 : decode cX1_bound 50 = .ok (.return_, 1) := by decide +kernel
set_option maxRecDepth 20000 in
theorem ggX1_shorten_X1_excessOf : GoodIn wsX1_shorten wsX1_excessOf := goodIn_r _ [6, 7, 12, 13] (by decide +kernel) (by decide +kernel)
set_option maxRecDepth 20000 in
theorem gX1_shorten_X1_excessOf : GoodIn wsX1_shorten (wsV RX1 51 RX1 yX1_excessOf wsX1_excessOf) := goodIn_app (goodIn_of _ (by decide +kernel)) ggX1_shorten_X1_excessOf
set_option maxRecDepth 20000 in
theorem ggX1_shorten_X1_putExcess : GoodIn wsX1_shorten wsX1_putExcess := goodIn_r _ [11, 7, 12, 13] (by decide +kernel) (by decide +kernel)
set_option maxRecDepth 20000 in
theorem gX1_shorten_X1_putExcess : GoodIn wsX1_shorten (wsV RX1 48 RX1 yX1_putExcess wsX1_putExcess) := goodIn_app (goodIn_of _ (by decide +kernel)) ggX1_shorten_X1_putExcess
theorem dX1_shorten_0 : decode cX1_shorten 0 = .ok (.iconst 0, 1) := by decide +kernel
theorem dX1_shorten_1 : decode cX1_shorten 1 = .ok (.istore 4, 2) := by decide +kernel
theorem dX1_shorten_3 : decode cX1_shorten 3 = .ok (.iload 4, 2) := by decide +kernel
theorem dX1_shorten_5 : decode cX1_shorten 5 = .ok (.aload_n 0, 1) := by decide +kernel
theorem dX1_shorten_6 : decode cX1_shorten 6 = .ok (.getfield 21, 3) := by decide +kernel
theorem dX1_shorten_9 : decode cX1_shorten 9 = .ok (.if_icmp .gt 41, 3) := by decide +kernel
theorem dX1_shorten_12 : decode cX1_shorten 12 = .ok (.iload_n 3, 1) := by decide +kernel
theorem dX1_shorten_13 : decode cX1_shorten 13 = .ok (.aload_n 0, 1) := by decide +kernel
theorem dX1_shorten_14 : decode cX1_shorten 14 = .ok (.iload_n 2, 1) := by decide +kernel
theorem dX1_shorten_15 : decode cX1_shorten 15 = .ok (.iload 4, 2) := by decide +kernel
theorem dX1_shorten_17 : decode cX1_shorten 17 = .ok (.invokevirtual 51, 3) := by decide +kernel
theorem dX1_shorten_20 : decode cX1_shorten 20 = .ok (.iadd, 1) := by decide +kernel
theorem dX1_shorten_21 : decode cX1_shorten 21 = .ok (.istore 5, 2) := by decide +kernel
theorem dX1_shorten_23 : decode cX1_shorten 23 = .ok (.iload 5, 2) := by decide +kernel
theorem dX1_shorten_25 : decode cX1_shorten 25 = .ok (.aload_n 0, 1) := by decide +kernel
theorem dX1_shorten_26 : decode cX1_shorten 26 = .ok (.iload_n 1, 1) := by decide +kernel
theorem dX1_shorten_27 : decode cX1_shorten 27 = .ok (.iload 4, 2) := by decide +kernel
theorem dX1_shorten_29 : decode cX1_shorten 29 = .ok (.invokevirtual 51, 3) := by decide +kernel
theorem dX1_shorten_32 : decode cX1_shorten 32 = .ok (.if_icmp .ge 12, 3) := by decide +kernel
theorem dX1_shorten_35 : decode cX1_shorten 35 = .ok (.aload_n 0, 1) := by decide +kernel
theorem dX1_shorten_36 : decode cX1_shorten 36 = .ok (.iload_n 1, 1) := by decide +kernel
theorem dX1_shorten_37 : decode cX1_shorten 37 = .ok (.iload 4, 2) := by decide +kernel
theorem dX1_shorten_39 : decode cX1_shorten 39 = .ok (.iload 5, 2) := by decide +kernel
theorem dX1_shorten_41 : decode cX1_shorten 41 = .ok (.invokevirtual 48, 3) := by decide +kernel
theorem dX1_shorten_44 : decode cX1_shorten 44 = .ok (.iinc 4 1, 3) := by decide +kernel
theorem dX1_shorten_47 : decode cX1_shorten 47 = .ok (.goto (-44), 3) := by decide +kernel
theorem dX1_shorten_50 : decode cX1_shorten 50 = .ok (.return_, 1) := by decide +kernel
theorem dX1_excessOf_0 : decode cX1_excessOf 0 = .ok (.iload_n 1, 1) := by decide +kernel
theorem dX1_excessOf_1 : decode cX1_excessOf 1 = .ok (.bipush 41, 2) := by decide +kernel
theorem dX1_excessOf_3 : decode cX1_excessOf 3 = .ok (.imul, 1) := by decide +kernel
theorem dX1_excessOf_4 : decode cX1_excessOf 4 = .ok (.iload_n 2, 1) := by decide +kernel
theorem dX1_excessOf_5 : decode cX1_excessOf 5 = .ok (.iadd, 1) := by decide +kernel
theorem dX1_excessOf_6 : decode cX1_excessOf 6 = .ok (.istore_n 3, 1) := by decide +kernel
theorem dX1_excessOf_7 : decode cX1_excessOf 7 = .ok (.iload_n 3, 1) := by decide +kernel
theorem dX1_excessOf_8 : decode cX1_excessOf 8 = .ok (.ifCond .lt 21, 3) := by decide +kernel
theorem dX1_excessOf_11 : decode cX1_excessOf 11 = .ok (.iload_n 3, 1) := by decide +kernel
theorem dX1_excessOf_12 : decode cX1_excessOf 12 = .ok (.aload_n 0, 1) := by decide +kernel
theorem dX1_excessOf_13 : decode cX1_excessOf 13 = .ok (.getfield 11, 3) := by decide +kernel
theorem dX1_excessOf_16 : decode cX1_excessOf 16 = .ok (.arraylength, 1) := by decide +kernel
theorem dX1_excessOf_17 : decode cX1_excessOf 17 = .ok (.if_icmp .ge 12, 3) := by decide +kernel
theorem dX1_excessOf_20 : decode cX1_excessOf 20 = .ok (.aload_n 0, 1) := by decide +kernel
theorem dX1_excessOf_21 : decode cX1_excessOf 21 = .ok (.getfield 11, 3) := by decide +kernel
theorem dX1_excessOf_24 : decode cX1_excessOf 24 = .ok (.iload_n 3, 1) := by decide +kernel
theorem dX1_excessOf_25 : decode cX1_excessOf 25 = .ok (.iaload, 1) := by decide +kernel
theorem dX1_excessOf_26 : decode cX1_excessOf 26 = .ok (.goto 4, 3) := by decide +kernel
theorem dX1_excessOf_29 : decode cX1_excessOf 29 = .ok (.iconst 0, 1) := by decide +kernel
theorem dX1_excessOf_30 : decode cX1_excessOf 30 = .ok (.ireturn, 1) := by decide +kernel
theorem dX1_putExcess_0 : decode cX1_putExcess 0 = .ok (.iload_n 1, 1) := by decide +kernel
theorem dX1_putExcess_1 : decode cX1_putExcess 1 = .ok (.bipush 41, 2) := by decide +kernel
theorem dX1_putExcess_3 : decode cX1_putExcess 3 = .ok (.imul, 1) := by decide +kernel
theorem dX1_putExcess_4 : decode cX1_putExcess 4 = .ok (.iload_n 2, 1) := by decide +kernel
theorem dX1_putExcess_5 : decode cX1_putExcess 5 = .ok (.iadd, 1) := by decide +kernel
theorem dX1_putExcess_6 : decode cX1_putExcess 6 = .ok (.istore 4, 2) := by decide +kernel
theorem dX1_putExcess_8 : decode cX1_putExcess 8 = .ok (.iload 4, 2) := by decide +kernel
theorem dX1_putExcess_10 : decode cX1_putExcess 10 = .ok (.ifCond .lt 21, 3) := by decide +kernel
theorem dX1_putExcess_13 : decode cX1_putExcess 13 = .ok (.iload 4, 2) := by decide +kernel
theorem dX1_putExcess_15 : decode cX1_putExcess 15 = .ok (.aload_n 0, 1) := by decide +kernel
theorem dX1_putExcess_16 : decode cX1_putExcess 16 = .ok (.getfield 11, 3) := by decide +kernel
theorem dX1_putExcess_19 : decode cX1_putExcess 19 = .ok (.arraylength, 1) := by decide +kernel
theorem dX1_putExcess_20 : decode cX1_putExcess 20 = .ok (.if_icmp .ge 11, 3) := by decide +kernel
theorem dX1_putExcess_23 : decode cX1_putExcess 23 = .ok (.aload_n 0, 1) := by decide +kernel
theorem dX1_putExcess_24 : decode cX1_putExcess 24 = .ok (.getfield 11, 3) := by decide +kernel
theorem dX1_putExcess_27 : decode cX1_putExcess 27 = .ok (.iload 4, 2) := by decide +kernel
theorem dX1_putExcess_29 : decode cX1_putExcess 29 = .ok (.iload_n 3, 1) := by decide +kernel
theorem dX1_putExcess_30 : decode cX1_putExcess 30 = .ok (.iastore, 1) := by decide +kernel
theorem dX1_putExcess_31 : decode cX1_putExcess 31 = .ok (.return_, 1) := by decide +kernel
set_option maxRecDepth 20000 in
theorem ggX1_fewestKeys_X1_excessOf : GoodIn wsX1_fewestKeys wsX1_excessOf := goodIn_r _ [5, 6, 7, 8] (by decide +kernel) (by decide +kernel)
set_option maxRecDepth 20000 in
theorem gX1_fewestKeys_X1_excessOf : GoodIn wsX1_fewestKeys (wsV RX1 51 RX1 yX1_excessOf wsX1_excessOf) := goodIn_app (goodIn_of _ (by decide +kernel)) ggX1_fewestKeys_X1_excessOf
theorem dX1_fewestKeys_0 : decode cX1_fewestKeys 0 = .ok (.aload_n 0, 1) := by decide +kernel
theorem dX1_fewestKeys_1 : decode cX1_fewestKeys 1 = .ok (.iload_n 2, 1) := by decide +kernel
theorem dX1_fewestKeys_2 : decode cX1_fewestKeys 2 = .ok (.iconst 1, 1) := by decide +kernel
theorem dX1_fewestKeys_3 : decode cX1_fewestKeys 3 = .ok (.iadd, 1) := by decide +kernel
theorem dX1_fewestKeys_4 : decode cX1_fewestKeys 4 = .ok (.iload_n 1, 1) := by decide +kernel
theorem dX1_fewestKeys_5 : decode cX1_fewestKeys 5 = .ok (.invokevirtual 51, 3) := by decide +kernel
theorem dX1_fewestKeys_8 : decode cX1_fewestKeys 8 = .ok (.ineg, 1) := by decide +kernel
theorem dX1_fewestKeys_9 : decode cX1_fewestKeys 9 = .ok (.ireturn, 1) := by decide +kernel
set_option maxRecDepth 20000 in
theorem ggX1_greatestKeys_X1_excessOf : GoodIn wsX1_greatestKeys wsX1_excessOf := goodIn_r _ [5, 6, 7, 8] (by decide +kernel) (by decide +kernel)
set_option maxRecDepth 20000 in
theorem gX1_greatestKeys_X1_excessOf : GoodIn wsX1_greatestKeys (wsV RX1 51 RX1 yX1_excessOf wsX1_excessOf) := goodIn_app (goodIn_of _ (by decide +kernel)) ggX1_greatestKeys_X1_excessOf
theorem dX1_greatestKeys_0 : decode cX1_greatestKeys 0 = .ok (.aload_n 0, 1) := by decide +kernel
theorem dX1_greatestKeys_1 : decode cX1_greatestKeys 1 = .ok (.iload_n 1, 1) := by decide +kernel
theorem dX1_greatestKeys_2 : decode cX1_greatestKeys 2 = .ok (.iload_n 2, 1) := by decide +kernel
theorem dX1_greatestKeys_3 : decode cX1_greatestKeys 3 = .ok (.iconst 1, 1) := by decide +kernel
theorem dX1_greatestKeys_4 : decode cX1_greatestKeys 4 = .ok (.iadd, 1) := by decide +kernel
theorem dX1_greatestKeys_5 : decode cX1_greatestKeys 5 = .ok (.invokevirtual 51, 3) := by decide +kernel
theorem dX1_greatestKeys_8 : decode cX1_greatestKeys 8 = .ok (.ireturn, 1) := by decide +kernel
set_option maxRecDepth 20000 in
theorem ggX1_sure_X1_fewestKeys : GoodIn wsX1_sure wsX1_fewestKeys := goodIn_r _ [5, 6, 7, 8, 4, 9, 10, 15, 16] (by decide +kernel) (by decide +kernel)
set_option maxRecDepth 20000 in
theorem gX1_sure_X1_fewestKeys : GoodIn wsX1_sure (wsV RX1 57 RX1 yX1_fewestKeys wsX1_fewestKeys) := goodIn_app (goodIn_of _ (by decide +kernel)) ggX1_sure_X1_fewestKeys
set_option maxRecDepth 20000 in
theorem ggX1_sure_X1_greatestKeys : GoodIn wsX1_sure wsX1_greatestKeys := goodIn_r _ [14, 6, 7, 8, 4, 9, 10, 15, 16] (by decide +kernel) (by decide +kernel)
set_option maxRecDepth 20000 in
theorem gX1_sure_X1_greatestKeys : GoodIn wsX1_sure (wsV RX1 60 RX1 yX1_greatestKeys wsX1_greatestKeys) := goodIn_app (goodIn_of _ (by decide +kernel)) ggX1_sure_X1_greatestKeys
theorem dX1_sure_0 : decode cX1_sure 0 = .ok (.aload_n 0, 1) := by decide +kernel
theorem dX1_sure_1 : decode cX1_sure 1 = .ok (.iload_n 1, 1) := by decide +kernel
theorem dX1_sure_2 : decode cX1_sure 2 = .ok (.iload_n 1, 1) := by decide +kernel
theorem dX1_sure_3 : decode cX1_sure 3 = .ok (.invokevirtual 57, 3) := by decide +kernel
theorem dX1_sure_6 : decode cX1_sure 6 = .ok (.istore_n 2, 1) := by decide +kernel
theorem dX1_sure_7 : decode cX1_sure 7 = .ok (.iload_n 2, 1) := by decide +kernel
theorem dX1_sure_8 : decode cX1_sure 8 = .ok (.aload_n 0, 1) := by decide +kernel
theorem dX1_sure_9 : decode cX1_sure 9 = .ok (.iload_n 1, 1) := by decide +kernel
theorem dX1_sure_10 : decode cX1_sure 10 = .ok (.iload_n 1, 1) := by decide +kernel
theorem dX1_sure_11 : decode cX1_sure 11 = .ok (.invokevirtual 60, 3) := by decide +kernel
theorem dX1_sure_14 : decode cX1_sure 14 = .ok (.if_icmp .ne 7, 3) := by decide +kernel
theorem dX1_sure_17 : decode cX1_sure 17 = .ok (.iload_n 2, 1) := by decide +kernel
theorem dX1_sure_18 : decode cX1_sure 18 = .ok (.goto 4, 3) := by decide +kernel
theorem dX1_sure_21 : decode cX1_sure 21 = .ok (.iconst (-1), 1) := by decide +kernel
theorem dX1_sure_22 : decode cX1_sure 22 = .ok (.ireturn, 1) := by decide +kernel
set_option maxRecDepth 20000 in
theorem ggX1_countSure_X1_sure : GoodIn wsX1_countSure wsX1_sure := goodIn_r _ [6, 7, 8, 9, 5, 10, 11, 12, 13, 14, 15, 16, 17, 18, 19, 20, 21] (by decide +kernel) (by decide +kernel)
set_option maxRecDepth 20000 in
theorem gX1_countSure_X1_sure : GoodIn wsX1_countSure (wsV RX1 63 RX1 yX1_sure wsX1_sure) := goodIn_app (goodIn_of _ (by decide +kernel)) ggX1_countSure_X1_sure
theorem dX1_countSure_0 : decode cX1_countSure 0 = .ok (.iconst 0, 1) := by decide +kernel
theorem dX1_countSure_1 : decode cX1_countSure 1 = .ok (.istore_n 1, 1) := by decide +kernel
theorem dX1_countSure_2 : decode cX1_countSure 2 = .ok (.iconst 0, 1) := by decide +kernel
theorem dX1_countSure_3 : decode cX1_countSure 3 = .ok (.istore_n 2, 1) := by decide +kernel
theorem dX1_countSure_4 : decode cX1_countSure 4 = .ok (.iload_n 2, 1) := by decide +kernel
theorem dX1_countSure_5 : decode cX1_countSure 5 = .ok (.aload_n 0, 1) := by decide +kernel
theorem dX1_countSure_6 : decode cX1_countSure 6 = .ok (.getfield 21, 3) := by decide +kernel
theorem dX1_countSure_9 : decode cX1_countSure 9 = .ok (.if_icmp .ge 21, 3) := by decide +kernel
theorem dX1_countSure_12 : decode cX1_countSure 12 = .ok (.aload_n 0, 1) := by decide +kernel
theorem dX1_countSure_13 : decode cX1_countSure 13 = .ok (.iload_n 2, 1) := by decide +kernel
theorem dX1_countSure_14 : decode cX1_countSure 14 = .ok (.invokevirtual 63, 3) := by decide +kernel
theorem dX1_countSure_17 : decode cX1_countSure 17 = .ok (.iconst (-1), 1) := by decide +kernel
theorem dX1_countSure_18 : decode cX1_countSure 18 = .ok (.if_icmp .eq 6, 3) := by decide +kernel
theorem dX1_countSure_21 : decode cX1_countSure 21 = .ok (.iinc 1 1, 3) := by decide +kernel
theorem dX1_countSure_24 : decode cX1_countSure 24 = .ok (.iinc 2 1, 3) := by decide +kernel
theorem dX1_countSure_27 : decode cX1_countSure 27 = .ok (.goto (-23), 3) := by decide +kernel
theorem dX1_countSure_30 : decode cX1_countSure 30 = .ok (.iload_n 1, 1) := by decide +kernel
theorem dX1_countSure_31 : decode cX1_countSure 31 = .ok (.ireturn, 1) := by decide +kernel
set_option maxRecDepth 20000 in
theorem ggX1_surePlace_X1_sure : GoodIn wsX1_surePlace wsX1_sure := goodIn_r _ [6, 7, 8, 9, 5, 10, 11, 12, 13, 14, 15, 16, 17, 18, 19, 20, 21] (by decide +kernel) (by decide +kernel)
set_option maxRecDepth 20000 in
theorem gX1_surePlace_X1_sure : GoodIn wsX1_surePlace (wsV RX1 63 RX1 yX1_sure wsX1_sure) := goodIn_app (goodIn_of _ (by decide +kernel)) ggX1_surePlace_X1_sure
theorem dX1_surePlace_0 : decode cX1_surePlace 0 = .ok (.iload_n 1, 1) := by decide +kernel
theorem dX1_surePlace_1 : decode cX1_surePlace 1 = .ok (.istore_n 2, 1) := by decide +kernel
theorem dX1_surePlace_2 : decode cX1_surePlace 2 = .ok (.iconst 0, 1) := by decide +kernel
theorem dX1_surePlace_3 : decode cX1_surePlace 3 = .ok (.istore_n 3, 1) := by decide +kernel
theorem dX1_surePlace_4 : decode cX1_surePlace 4 = .ok (.iload_n 3, 1) := by decide +kernel
theorem dX1_surePlace_5 : decode cX1_surePlace 5 = .ok (.aload_n 0, 1) := by decide +kernel
theorem dX1_surePlace_6 : decode cX1_surePlace 6 = .ok (.getfield 21, 3) := by decide +kernel
theorem dX1_surePlace_9 : decode cX1_surePlace 9 = .ok (.if_icmp .ge 27, 3) := by decide +kernel
theorem dX1_surePlace_12 : decode cX1_surePlace 12 = .ok (.aload_n 0, 1) := by decide +kernel
theorem dX1_surePlace_13 : decode cX1_surePlace 13 = .ok (.iload_n 3, 1) := by decide +kernel
theorem dX1_surePlace_14 : decode cX1_surePlace 14 = .ok (.invokevirtual 63, 3) := by decide +kernel
theorem dX1_surePlace_17 : decode cX1_surePlace 17 = .ok (.iconst (-1), 1) := by decide +kernel
theorem dX1_surePlace_18 : decode cX1_surePlace 18 = .ok (.if_icmp .eq 12, 3) := by decide +kernel
theorem dX1_surePlace_21 : decode cX1_surePlace 21 = .ok (.iload_n 2, 1) := by decide +kernel
theorem dX1_surePlace_22 : decode cX1_surePlace 22 = .ok (.ifCond .ne 5, 3) := by decide +kernel
theorem dX1_surePlace_25 : decode cX1_surePlace 25 = .ok (.iload_n 3, 1) := by decide +kernel
theorem dX1_surePlace_26 : decode cX1_surePlace 26 = .ok (.ireturn, 1) := by decide +kernel
theorem dX1_surePlace_27 : decode cX1_surePlace 27 = .ok (.iinc 2 (-1), 3) := by decide +kernel
theorem dX1_surePlace_30 : decode cX1_surePlace 30 = .ok (.iinc 3 1, 3) := by decide +kernel
theorem dX1_surePlace_33 : decode cX1_surePlace 33 = .ok (.goto (-29), 3) := by decide +kernel
theorem dX1_surePlace_36 : decode cX1_surePlace 36 = .ok (.iconst (-1), 1) := by decide +kernel
theorem dX1_surePlace_37 : decode cX1_surePlace 37 = .ok (.ireturn, 1) := by decide +kernel
set_option maxRecDepth 20000 in
theorem ggX1_countSureBehind_X1_excessBehind : GoodIn wsX1_countSureBehind wsX1_excessBehind := goodIn_r _ [6, 7, 8, 9, 10, 11, 12, 13, 5, 14, 15, 16, 17] (by decide +kernel) (by decide +kernel)
set_option maxRecDepth 20000 in
theorem gX1_countSureBehind_X1_excessBehind : GoodIn wsX1_countSureBehind (wsV RX1 66 RX1 yX1_excessBehind wsX1_excessBehind) := goodIn_app (goodIn_of _ (by decide +kernel)) ggX1_countSureBehind_X1_excessBehind
theorem dX1_countSureBehind_0 : decode cX1_countSureBehind 0 = .ok (.iconst 0, 1) := by decide +kernel
theorem dX1_countSureBehind_1 : decode cX1_countSureBehind 1 = .ok (.istore 5, 2) := by decide +kernel
theorem dX1_countSureBehind_3 : decode cX1_countSureBehind 3 = .ok (.iconst 0, 1) := by decide +kernel
theorem dX1_countSureBehind_4 : decode cX1_countSureBehind 4 = .ok (.istore 6, 2) := by decide +kernel
theorem dX1_countSureBehind_6 : decode cX1_countSureBehind 6 = .ok (.iload 6, 2) := by decide +kernel
theorem dX1_countSureBehind_8 : decode cX1_countSureBehind 8 = .ok (.aload_n 0, 1) := by decide +kernel
theorem dX1_countSureBehind_9 : decode cX1_countSureBehind 9 = .ok (.getfield 21, 3) := by decide +kernel
theorem dX1_countSureBehind_12 : decode cX1_countSureBehind 12 = .ok (.if_icmp .ge 58, 3) := by decide +kernel
theorem dX1_countSureBehind_15 : decode cX1_countSureBehind 15 = .ok (.aload_n 0, 1) := by decide +kernel
theorem dX1_countSureBehind_16 : decode cX1_countSureBehind 16 = .ok (.iload 6, 2) := by decide +kernel
theorem dX1_countSureBehind_18 : decode cX1_countSureBehind 18 = .ok (.iload 6, 2) := by decide +kernel
theorem dX1_countSureBehind_20 : decode cX1_countSureBehind 20 = .ok (.iconst 1, 1) := by decide +kernel
theorem dX1_countSureBehind_21 : decode cX1_countSureBehind 21 = .ok (.iadd, 1) := by decide +kernel
theorem dX1_countSureBehind_22 : decode cX1_countSureBehind 22 = .ok (.iload_n 1, 1) := by decide +kernel
theorem dX1_countSureBehind_23 : decode cX1_countSureBehind 23 = .ok (.iload_n 2, 1) := by decide +kernel
theorem dX1_countSureBehind_24 : decode cX1_countSureBehind 24 = .ok (.iconst 1, 1) := by decide +kernel
theorem dX1_countSureBehind_25 : decode cX1_countSureBehind 25 = .ok (.iadd, 1) := by decide +kernel
theorem dX1_countSureBehind_26 : decode cX1_countSureBehind 26 = .ok (.iload_n 3, 1) := by decide +kernel
theorem dX1_countSureBehind_27 : decode cX1_countSureBehind 27 = .ok (.iload 4, 2) := by decide +kernel
theorem dX1_countSureBehind_29 : decode cX1_countSureBehind 29 = .ok (.invokevirtual 66, 3) := by decide +kernel
theorem dX1_countSureBehind_32 : decode cX1_countSureBehind 32 = .ok (.istore 7, 2) := by decide +kernel
theorem dX1_countSureBehind_34 : decode cX1_countSureBehind 34 = .ok (.aload_n 0, 1) := by decide +kernel
theorem dX1_countSureBehind_35 : decode cX1_countSureBehind 35 = .ok (.iload 6, 2) := by decide +kernel
theorem dX1_countSureBehind_37 : decode cX1_countSureBehind 37 = .ok (.iconst 1, 1) := by decide +kernel
theorem dX1_countSureBehind_38 : decode cX1_countSureBehind 38 = .ok (.iadd, 1) := by decide +kernel
theorem dX1_countSureBehind_39 : decode cX1_countSureBehind 39 = .ok (.iload 6, 2) := by decide +kernel
theorem dX1_countSureBehind_41 : decode cX1_countSureBehind 41 = .ok (.iload_n 1, 1) := by decide +kernel
theorem dX1_countSureBehind_42 : decode cX1_countSureBehind 42 = .ok (.iload_n 2, 1) := by decide +kernel
theorem dX1_countSureBehind_43 : decode cX1_countSureBehind 43 = .ok (.iconst 1, 1) := by decide +kernel
theorem dX1_countSureBehind_44 : decode cX1_countSureBehind 44 = .ok (.iadd, 1) := by decide +kernel
theorem dX1_countSureBehind_45 : decode cX1_countSureBehind 45 = .ok (.iload_n 3, 1) := by decide +kernel
theorem dX1_countSureBehind_46 : decode cX1_countSureBehind 46 = .ok (.iload 4, 2) := by decide +kernel
theorem dX1_countSureBehind_48 : decode cX1_countSureBehind 48 = .ok (.invokevirtual 66, 3) := by decide +kernel
theorem dX1_countSureBehind_51 : decode cX1_countSureBehind 51 = .ok (.ineg, 1) := by decide +kernel
theorem dX1_countSureBehind_52 : decode cX1_countSureBehind 52 = .ok (.istore 8, 2) := by decide +kernel
theorem dX1_countSureBehind_54 : decode cX1_countSureBehind 54 = .ok (.iload 7, 2) := by decide +kernel
theorem dX1_countSureBehind_56 : decode cX1_countSureBehind 56 = .ok (.iload 8, 2) := by decide +kernel
theorem dX1_countSureBehind_58 : decode cX1_countSureBehind 58 = .ok (.if_icmp .ne 6, 3) := by decide +kernel
theorem dX1_countSureBehind_61 : decode cX1_countSureBehind 61 = .ok (.iinc 5 1, 3) := by decide +kernel
theorem dX1_countSureBehind_64 : decode cX1_countSureBehind 64 = .ok (.iinc 6 1, 3) := by decide +kernel
theorem dX1_countSureBehind_67 : decode cX1_countSureBehind 67 = .ok (.goto (-61), 3) := by decide +kernel
theorem dX1_countSureBehind_70 : decode cX1_countSureBehind 70 = .ok (.iload 5, 2) := by decide +kernel
theorem dX1_countSureBehind_72 : decode cX1_countSureBehind 72 = .ok (.ireturn, 1) := by decide +kernel
set_option maxRecDepth 20000 in
theorem ggX1_excessBehind_X1_excessOf : GoodIn wsX1_excessBehind wsX1_excessOf := goodIn_r _ [9, 10, 11, 12] (by decide +kernel) (by decide +kernel)
set_option maxRecDepth 20000 in
theorem gX1_excessBehind_X1_excessOf : GoodIn wsX1_excessBehind (wsV RX1 51 RX1 yX1_excessOf wsX1_excessOf) := goodIn_app (goodIn_of _ (by decide +kernel)) ggX1_excessBehind_X1_excessOf
theorem dX1_excessBehind_0 : decode cX1_excessBehind 0 = .ok (.aload_n 0, 1) := by decide +kernel
theorem dX1_excessBehind_1 : decode cX1_excessBehind 1 = .ok (.iload_n 1, 1) := by decide +kernel
theorem dX1_excessBehind_2 : decode cX1_excessBehind 2 = .ok (.iload_n 3, 1) := by decide +kernel
theorem dX1_excessBehind_3 : decode cX1_excessBehind 3 = .ok (.invokevirtual 51, 3) := by decide +kernel
theorem dX1_excessBehind_6 : decode cX1_excessBehind 6 = .ok (.iload 6, 2) := by decide +kernel
theorem dX1_excessBehind_8 : decode cX1_excessBehind 8 = .ok (.iadd, 1) := by decide +kernel
theorem dX1_excessBehind_9 : decode cX1_excessBehind 9 = .ok (.aload_n 0, 1) := by decide +kernel
theorem dX1_excessBehind_10 : decode cX1_excessBehind 10 = .ok (.iload 4, 2) := by decide +kernel
theorem dX1_excessBehind_12 : decode cX1_excessBehind 12 = .ok (.iload_n 2, 1) := by decide +kernel
theorem dX1_excessBehind_13 : decode cX1_excessBehind 13 = .ok (.invokevirtual 51, 3) := by decide +kernel
theorem dX1_excessBehind_16 : decode cX1_excessBehind 16 = .ok (.iadd, 1) := by decide +kernel
theorem dX1_excessBehind_17 : decode cX1_excessBehind 17 = .ok (.istore 7, 2) := by decide +kernel
theorem dX1_excessBehind_19 : decode cX1_excessBehind 19 = .ok (.aload_n 0, 1) := by decide +kernel
theorem dX1_excessBehind_20 : decode cX1_excessBehind 20 = .ok (.iload_n 1, 1) := by decide +kernel
theorem dX1_excessBehind_21 : decode cX1_excessBehind 21 = .ok (.iload 4, 2) := by decide +kernel
theorem dX1_excessBehind_23 : decode cX1_excessBehind 23 = .ok (.invokevirtual 51, 3) := by decide +kernel
theorem dX1_excessBehind_26 : decode cX1_excessBehind 26 = .ok (.iload 5, 2) := by decide +kernel
theorem dX1_excessBehind_28 : decode cX1_excessBehind 28 = .ok (.isub, 1) := by decide +kernel
theorem dX1_excessBehind_29 : decode cX1_excessBehind 29 = .ok (.aload_n 0, 1) := by decide +kernel
theorem dX1_excessBehind_30 : decode cX1_excessBehind 30 = .ok (.iload_n 3, 1) := by decide +kernel
theorem dX1_excessBehind_31 : decode cX1_excessBehind 31 = .ok (.iload_n 2, 1) := by decide +kernel
theorem dX1_excessBehind_32 : decode cX1_excessBehind 32 = .ok (.invokevirtual 51, 3) := by decide +kernel
theorem dX1_excessBehind_35 : decode cX1_excessBehind 35 = .ok (.iadd, 1) := by decide +kernel
theorem dX1_excessBehind_36 : decode cX1_excessBehind 36 = .ok (.istore 8, 2) := by decide +kernel
theorem dX1_excessBehind_38 : decode cX1_excessBehind 38 = .ok (.aload_n 0, 1) := by decide +kernel
theorem dX1_excessBehind_39 : decode cX1_excessBehind 39 = .ok (.iload_n 1, 1) := by decide +kernel
theorem dX1_excessBehind_40 : decode cX1_excessBehind 40 = .ok (.iload_n 2, 1) := by decide +kernel
theorem dX1_excessBehind_41 : decode cX1_excessBehind 41 = .ok (.invokevirtual 51, 3) := by decide +kernel
theorem dX1_excessBehind_44 : decode cX1_excessBehind 44 = .ok (.iload 7, 2) := by decide +kernel
theorem dX1_excessBehind_46 : decode cX1_excessBehind 46 = .ok (.iload 8, 2) := by decide +kernel
theorem dX1_excessBehind_48 : decode cX1_excessBehind 48 = .ok (.invokestatic 70, 3) := by decide +kernel
theorem dX1_excessBehind_51 : decode cX1_excessBehind 51 = .ok (.invokestatic 70, 3) := by decide +kernel
theorem dX1_excessBehind_54 : decode cX1_excessBehind 54 = .ok (.ireturn, 1) := by decide +kernel
theorem dX2_init_0 : decode cX2_init 0 = .ok (.aload_n 0, 1) := by decide +kernel
theorem dX2_init_1 : decode cX2_init 1 = .ok (.invokespecial 3, 3) := by decide +kernel
theorem dX2_init_4 : decode cX2_init 4 = .ok (.aload_n 0, 1) := by decide +kernel
theorem dX2_init_5 : decode cX2_init 5 = .ok (.bipush 14, 2) := by decide +kernel
theorem dX2_init_7 : decode cX2_init 7 = .ok (.anewarray 9, 3) := by decide +kernel
theorem dX2_init_10 : decode cX2_init 10 = .ok (.putfield 11, 3) := by decide +kernel
theorem dX2_init_13 : decode cX2_init 13 = .ok (.return_, 1) := by decide +kernel
theorem dX2_isEmpty_0 : decode cX2_isEmpty 0 = .ok (.aload_n 0, 1) := by decide +kernel
theorem dX2_isEmpty_1 : decode cX2_isEmpty 1 = .ok (.getfield 17, 3) := by decide +kernel
theorem dX2_isEmpty_4 : decode cX2_isEmpty 4 = .ok (.ifCond .ne 7, 3) := by decide +kernel
theorem dX2_isEmpty_7 : decode cX2_isEmpty 7 = .ok (.iconst 1, 1) := by decide +kernel
theorem dX2_isEmpty_8 : decode cX2_isEmpty 8 = .ok (.goto 4, 3) := by decide +kernel
theorem dX2_isEmpty_11 : decode cX2_isEmpty 11 = .ok (.iconst 0, 1) := by decide +kernel
theorem dX2_isEmpty_12 : decode cX2_isEmpty 12 = .ok (.ireturn, 1) := by decide +kernel
theorem dX2_forgetStates_0 : decode cX2_forgetStates 0 = .ok (.aload_n 0, 1) := by decide +kernel
theorem dX2_forgetStates_1 : decode cX2_forgetStates 1 = .ok (.iconst 0, 1) := by decide +kernel
theorem dX2_forgetStates_2 : decode cX2_forgetStates 2 = .ok (.putfield 17, 3) := by decide +kernel
theorem dX2_forgetStates_5 : decode cX2_forgetStates 5 = .ok (.return_, 1) := by decide +kernel
set_option maxRecDepth 20000 in
theorem ggX2_remember_X0_init : GoodIn wsX2_remember wsX0_init := goodIn_r _ [12, 13, 14, 15, 16, 17, 34, 35, 36, 37, 38, 39, 40, 41, 42, 43] (by decide +kernel) (by decide +kernel)
set_option maxRecDepth 20000 in
theorem gX2_remember_X0_init_n24 : GoodIn wsX2_remember (wsX0_init) := ggX2_remember_X0_init
set_option maxRecDepth 20000 in
theorem ggX2_remember_X0_takeFrom : GoodIn wsX2_remember wsX0_takeFrom := goodIn_r _ [21, 22, 23, 24, 25, 26, 27, 28, 29, 30, 17, 34, 35, 36, 37, 38, 39, 40, 41, 42, 43] (by decide +kernel) (by decide +kernel)
set_option maxRecDepth 20000 in
theorem gX2_remember_X0_takeFrom : GoodIn wsX2_remember (wsV RX2 25 RX0 yX0_takeFrom wsX0_takeFrom) := goodIn_app (goodIn_of _ (by decide +kernel)) ggX2_remember_X0_takeFrom
theorem dX2_remember_0 : decode cX2_remember 0 = .ok (.aload_n 0, 1) := by decide +kernel
theorem dX2_remember_1 : decode cX2_remember 1 = .ok (.getfield 21, 3) := by decide +kernel
theorem dX2_remember_4 : decode cX2_remember 4 = .ok (.ifCond .lt 15, 3) := by decide +kernel
theorem dX2_remember_7 : decode cX2_remember 7 = .ok (.aload_n 0, 1) := by decide +kernel
theorem dX2_remember_8 : decode cX2_remember 8 = .ok (.getfield 21, 3) := by decide +kernel
theorem dX2_remember_11 : decode cX2_remember 11 = .ok (.aload_n 0, 1) := by decide +kernel
theorem dX2_remember_12 : decode cX2_remember 12 = .ok (.getfield 11, 3) := by decide +kernel
theorem dX2_remember_15 : decode cX2_remember 15 = .ok (.arraylength, 1) := by decide +kernel
theorem dX2_remember_16 : decode cX2_remember 16 = .ok (.if_icmp .lt 4, 3) := by decide +kernel
theorem dX2_remember_19 : decode cX2_remember 19 = .ok (.return_, 1) := by decide +kernel
theorem dX2_remember_20 : decode cX2_remember 20 = .ok (.aload_n 0, 1) := by decide +kernel
theorem dX2_remember_21 : decode cX2_remember 21 = .ok (.getfield 11, 3) := by decide +kernel
theorem dX2_remember_24 : decode cX2_remember 24 = .ok (.aload_n 0, 1) := by decide +kernel
theorem dX2_remember_25 : decode cX2_remember 25 = .ok (.getfield 21, 3) := by decide +kernel
theorem dX2_remember_28 : decode cX2_remember 28 = .ok (.aaload, 1) := by decide +kernel
theorem dX2_remember_29 : decode cX2_remember 29 = .ok (.astore_n 2, 1) := by decide +kernel
theorem dX2_remember_30 : decode cX2_remember 30 = .ok (.aload_n 2, 1) := by decide +kernel
theorem dX2_remember_31 : decode cX2_remember 31 = .ok (.ifnonnull 21, 3) := by decide +kernel
theorem dX2_remember_34 : decode cX2_remember 34 = .ok (.new 9, 3) := by decide +kernel
theorem dX2_remember_37 : decode cX2_remember 37 = .ok (.dup, 1) := by decide +kernel
theorem dX2_remember_38 : decode cX2_remember 38 = .ok (.invokespecial 24, 3) := by decide +kernel
theorem dX2_remember_41 : decode cX2_remember 41 = .ok (.astore_n 2, 1) := by decide +kernel
theorem dX2_remember_42 : decode cX2_remember 42 = .ok (.aload_n 0, 1) := by decide +kernel
theorem dX2_remember_43 : decode cX2_remember 43 = .ok (.getfield 11, 3) := by decide +kernel
theorem dX2_remember_46 : decode cX2_remember 46 = .ok (.aload_n 0, 1) := by decide +kernel
theorem dX2_remember_47 : decode cX2_remember 47 = .ok (.getfield 21, 3) := by decide +kernel
theorem dX2_remember_50 : decode cX2_remember 50 = .ok (.aload_n 2, 1) := by decide +kernel
theorem dX2_remember_51 : decode cX2_remember 51 = .ok (.aastore, 1) := by decide +kernel
theorem dX2_remember_52 : decode cX2_remember 52 = .ok (.aload_n 2, 1) := by decide +kernel
theorem dX2_remember_53 : decode cX2_remember 53 = .ok (.aload_n 1, 1) := by decide +kernel
theorem dX2_remember_54 : decode cX2_remember 54 = .ok (.invokevirtual 25, 3) := by decide +kernel
theorem dX2_remember_57 : decode cX2_remember 57 = .ok (.aload_n 0, 1) := by decide +kernel
theorem dX2_remember_58 : decode cX2_remember 58 = .ok (.aload_n 0, 1) := by decide +kernel
theorem dX2_remember_59 : decode cX2_remember 59 = .ok (.getfield 21, 3) := by decide +kernel
theorem dX2_remember_62 : decode cX2_remember 62 = .ok (.iconst 1, 1) := by decide +kernel
theorem dX2_remember_63 : decode cX2_remember 63 = .ok (.iadd, 1) := by decide +kernel
theorem dX2_remember_64 : decode cX2_remember 64 = .ok (.aload_n 0, 1) := by decide +kernel
theorem dX2_remember_65 : decode cX2_remember 65 = .ok (.getfield 11, 3) := by decide +kernel
theorem dX2_remember_68 : decode cX2_remember 68 = .ok (.arraylength, 1) := by decide +kernel
theorem dX2_remember_69 : decode cX2_remember 69 = .ok (.if_icmp .ge 12, 3) := by decide +kernel
theorem dX2_remember_72 : decode cX2_remember 72 = .ok (.aload_n 0, 1) := by decide +kernel
theorem dX2_remember_73 : decode cX2_remember 73 = .ok (.getfield 21, 3) := by decide +kernel
theorem dX2_remember_76 : decode cX2_remember 76 = .ok (.iconst 1, 1) := by decide +kernel
theorem dX2_remember_77 : decode cX2_remember 77 = .ok (.iadd, 1) := by decide +kernel
theorem dX2_remember_78 : decode cX2_remember 78 = .ok (.goto 4, 3) := by decide +kernel
theorem dX2_remember_81 : decode cX2_remember 81 = .ok (.iconst 0, 1) := by decide +kernel
theorem dX2_remember_82 : decode cX2_remember 82 = .ok (.putfield 21, 3) := by decide +kernel
theorem dX2_remember_85 : decode cX2_remember 85 = .ok (.aload_n 0, 1) := by decide +kernel
theorem dX2_remember_86 : decode cX2_remember 86 = .ok (.aload_n 0, 1) := by decide +kernel
theorem dX2_remember_87 : decode cX2_remember 87 = .ok (.getfield 17, 3) := by decide +kernel
theorem dX2_remember_90 : decode cX2_remember 90 = .ok (.iconst 1, 1) := by decide +kernel
theorem dX2_remember_91 : decode cX2_remember 91 = .ok (.iadd, 1) := by decide +kernel
theorem dX2_remember_92 : decode cX2_remember 92 = .ok (.aload_n 0, 1) := by decide +kernel
theorem dX2_remember_93 : decode cX2_remember 93 = .ok (.getfield 11, 3) := by decide +kernel
theorem dX2_remember_96 : decode cX2_remember 96 = .ok (.arraylength, 1) := by decide +kernel
theorem dX2_remember_97 : decode cX2_remember 97 = .ok (.invokestatic 29, 3) := by decide +kernel
theorem dX2_remember_100 : decode cX2_remember 100 = .ok (.putfield 17, 3) := by decide +kernel
theorem dX2_remember_103 : decode cX2_remember 103 = .ok (.return_, 1) := by decide +kernel
set_option maxRecDepth 20000 in
theorem ggX2_takeBack_X0_takeFrom : GoodIn wsX2_takeBack wsX0_takeFrom := goodIn_r _ [8, 9, 10, 11, 12, 13, 14, 15, 16, 17, 18, 22, 23, 24, 25, 26, 27, 28, 29, 30, 31] (by decide +kernel) (by decide +kernel)
set_option maxRecDepth 20000 in
theorem gX2_takeBack_X0_takeFrom : GoodIn wsX2_takeBack (wsV RX2 25 RX0 yX0_takeFrom wsX0_takeFrom) := goodIn_app (goodIn_of _ (by decide +kernel)) ggX2_takeBack_X0_takeFrom
theorem dX2_takeBack_0 : decode cX2_takeBack 0 = .ok (.aload_n 0, 1) := by decide +kernel
theorem dX2_takeBack_1 : decode cX2_takeBack 1 = .ok (.getfield 21, 3) := by decide +kernel
theorem dX2_takeBack_4 : decode cX2_takeBack 4 = .ok (.ifCond .le 12, 3) := by decide +kernel
theorem dX2_takeBack_7 : decode cX2_takeBack 7 = .ok (.aload_n 0, 1) := by decide +kernel
theorem dX2_takeBack_8 : decode cX2_takeBack 8 = .ok (.getfield 21, 3) := by decide +kernel
theorem dX2_takeBack_11 : decode cX2_takeBack 11 = .ok (.iconst 1, 1) := by decide +kernel
theorem dX2_takeBack_12 : decode cX2_takeBack 12 = .ok (.isub, 1) := by decide +kernel
theorem dX2_takeBack_13 : decode cX2_takeBack 13 = .ok (.goto 10, 3) := by decide +kernel
theorem dX2_takeBack_16 : decode cX2_takeBack 16 = .ok (.aload_n 0, 1) := by decide +kernel
theorem dX2_takeBack_17 : decode cX2_takeBack 17 = .ok (.getfield 11, 3) := by decide +kernel
theorem dX2_takeBack_20 : decode cX2_takeBack 20 = .ok (.arraylength, 1) := by decide +kernel
theorem dX2_takeBack_21 : decode cX2_takeBack 21 = .ok (.iconst 1, 1) := by decide +kernel
theorem dX2_takeBack_22 : decode cX2_takeBack 22 = .ok (.isub, 1) := by decide +kernel
theorem dX2_takeBack_23 : decode cX2_takeBack 23 = .ok (.istore_n 2, 1) := by decide +kernel
theorem dX2_takeBack_24 : decode cX2_takeBack 24 = .ok (.aload_n 0, 1) := by decide +kernel
theorem dX2_takeBack_25 : decode cX2_takeBack 25 = .ok (.getfield 17, 3) := by decide +kernel
theorem dX2_takeBack_28 : decode cX2_takeBack 28 = .ok (.ifCond .le 47, 3) := by decide +kernel
theorem dX2_takeBack_31 : decode cX2_takeBack 31 = .ok (.iload_n 2, 1) := by decide +kernel
theorem dX2_takeBack_32 : decode cX2_takeBack 32 = .ok (.ifCond .lt 43, 3) := by decide +kernel
theorem dX2_takeBack_35 : decode cX2_takeBack 35 = .ok (.iload_n 2, 1) := by decide +kernel
theorem dX2_takeBack_36 : decode cX2_takeBack 36 = .ok (.aload_n 0, 1) := by decide +kernel
theorem dX2_takeBack_37 : decode cX2_takeBack 37 = .ok (.getfield 11, 3) := by decide +kernel
theorem dX2_takeBack_40 : decode cX2_takeBack 40 = .ok (.arraylength, 1) := by decide +kernel
theorem dX2_takeBack_41 : decode cX2_takeBack 41 = .ok (.if_icmp .ge 34, 3) := by decide +kernel
theorem dX2_takeBack_44 : decode cX2_takeBack 44 = .ok (.aload_n 0, 1) := by decide +kernel
theorem dX2_takeBack_45 : decode cX2_takeBack 45 = .ok (.getfield 11, 3) := by decide +kernel
theorem dX2_takeBack_48 : decode cX2_takeBack 48 = .ok (.iload_n 2, 1) := by decide +kernel
theorem dX2_takeBack_49 : decode cX2_takeBack 49 = .ok (.aaload, 1) := by decide +kernel
theorem dX2_takeBack_50 : decode cX2_takeBack 50 = .ok (.astore_n 3, 1) := by decide +kernel
theorem dX2_takeBack_51 : decode cX2_takeBack 51 = .ok (.aload_n 3, 1) := by decide +kernel
theorem dX2_takeBack_52 : decode cX2_takeBack 52 = .ok (.ifnull 8, 3) := by decide +kernel
theorem dX2_takeBack_55 : decode cX2_takeBack 55 = .ok (.aload_n 1, 1) := by decide +kernel
theorem dX2_takeBack_56 : decode cX2_takeBack 56 = .ok (.aload_n 3, 1) := by decide +kernel
theorem dX2_takeBack_57 : decode cX2_takeBack 57 = .ok (.invokevirtual 25, 3) := by decide +kernel
theorem dX2_takeBack_60 : decode cX2_takeBack 60 = .ok (.aload_n 0, 1) := by decide +kernel
theorem dX2_takeBack_61 : decode cX2_takeBack 61 = .ok (.iload_n 2, 1) := by decide +kernel
theorem dX2_takeBack_62 : decode cX2_takeBack 62 = .ok (.putfield 21, 3) := by decide +kernel
theorem dX2_takeBack_65 : decode cX2_takeBack 65 = .ok (.aload_n 0, 1) := by decide +kernel
theorem dX2_takeBack_66 : decode cX2_takeBack 66 = .ok (.dup, 1) := by decide +kernel
theorem dX2_takeBack_67 : decode cX2_takeBack 67 = .ok (.getfield 17, 3) := by decide +kernel
theorem dX2_takeBack_70 : decode cX2_takeBack 70 = .ok (.iconst 1, 1) := by decide +kernel
theorem dX2_takeBack_71 : decode cX2_takeBack 71 = .ok (.isub, 1) := by decide +kernel
theorem dX2_takeBack_72 : decode cX2_takeBack 72 = .ok (.putfield 17, 3) := by decide +kernel
theorem dX2_takeBack_75 : decode cX2_takeBack 75 = .ok (.aload_n 0, 1) := by decide +kernel
theorem dX2_takeBack_76 : decode cX2_takeBack 76 = .ok (.getfield 17, 3) := by decide +kernel
theorem dX2_takeBack_79 : decode cX2_takeBack 79 = .ok (.ireturn, 1) := by decide +kernel
theorem dX3_init_0 : decode cX3_init 0 = .ok (.aload_n 0, 1) := by decide +kernel
theorem dX3_init_1 : decode cX3_init 1 = .ok (.invokespecial 3, 3) := by decide +kernel
theorem dX3_init_4 : decode cX3_init 4 = .ok (.aload_n 0, 1) := by decide +kernel
theorem dX3_init_5 : decode cX3_init 5 = .ok (.bipush 100, 2) := by decide +kernel
theorem dX3_init_7 : decode cX3_init 7 = .ok (.newarray .char, 2) := by decide +kernel
theorem dX3_init_9 : decode cX3_init 9 = .ok (.putfield 9, 3) := by decide +kernel
theorem dX3_init_12 : decode cX3_init 12 = .ok (.return_, 1) := by decide +kernel
theorem dX3_isFull_0 : decode cX3_isFull 0 = .ok (.aload_n 0, 1) := by decide +kernel
theorem dX3_isFull_1 : decode cX3_isFull 1 = .ok (.getfield 15, 3) := by decide +kernel
theorem dX3_isFull_4 : decode cX3_isFull 4 = .ok (.aload_n 0, 1) := by decide +kernel
theorem dX3_isFull_5 : decode cX3_isFull 5 = .ok (.getfield 9, 3) := by decide +kernel
theorem dX3_isFull_8 : decode cX3_isFull 8 = .ok (.arraylength, 1) := by decide +kernel
theorem dX3_isFull_9 : decode cX3_isFull 9 = .ok (.if_icmp .lt 7, 3) := by decide +kernel
theorem dX3_isFull_12 : decode cX3_isFull 12 = .ok (.iconst 1, 1) := by decide +kernel
theorem dX3_isFull_13 : decode cX3_isFull 13 = .ok (.goto 4, 3) := by decide +kernel
theorem dX3_isFull_16 : decode cX3_isFull 16 = .ok (.iconst 0, 1) := by decide +kernel
theorem dX3_isFull_17 : decode cX3_isFull 17 = .ok (.ireturn, 1) := by decide +kernel
theorem dX3_add_0 : decode cX3_add 0 = .ok (.aload_n 0, 1) := by decide +kernel
theorem dX3_add_1 : decode cX3_add 1 = .ok (.getfield 15, 3) := by decide +kernel
theorem dX3_add_4 : decode cX3_add 4 = .ok (.ifCond .lt 35, 3) := by decide +kernel
theorem dX3_add_7 : decode cX3_add 7 = .ok (.aload_n 0, 1) := by decide +kernel
theorem dX3_add_8 : decode cX3_add 8 = .ok (.getfield 15, 3) := by decide +kernel
theorem dX3_add_11 : decode cX3_add 11 = .ok (.aload_n 0, 1) := by decide +kernel
theorem dX3_add_12 : decode cX3_add 12 = .ok (.getfield 9, 3) := by decide +kernel
theorem dX3_add_15 : decode cX3_add 15 = .ok (.arraylength, 1) := by decide +kernel
theorem dX3_add_16 : decode cX3_add 16 = .ok (.if_icmp .ge 23, 3) := by decide +kernel
theorem dX3_add_19 : decode cX3_add 19 = .ok (.aload_n 0, 1) := by decide +kernel
theorem dX3_add_20 : decode cX3_add 20 = .ok (.getfield 9, 3) := by decide +kernel
theorem dX3_add_23 : decode cX3_add 23 = .ok (.aload_n 0, 1) := by decide +kernel
theorem dX3_add_24 : decode cX3_add 24 = .ok (.getfield 15, 3) := by decide +kernel
theorem dX3_add_27 : decode cX3_add 27 = .ok (.iload_n 1, 1) := by decide +kernel
theorem dX3_add_28 : decode cX3_add 28 = .ok (.castore, 1) := by decide +kernel
theorem dX3_add_29 : decode cX3_add 29 = .ok (.aload_n 0, 1) := by decide +kernel
theorem dX3_add_30 : decode cX3_add 30 = .ok (.dup, 1) := by decide +kernel
theorem dX3_add_31 : decode cX3_add 31 = .ok (.getfield 15, 3) := by decide +kernel
theorem dX3_add_34 : decode cX3_add 34 = .ok (.iconst 1, 1) := by decide +kernel
theorem dX3_add_35 : decode cX3_add 35 = .ok (.iadd, 1) := by decide +kernel
theorem dX3_add_36 : decode cX3_add 36 = .ok (.putfield 15, 3) := by decide +kernel
theorem dX3_add_39 : decode cX3_add 39 = .ok (.aload_n 0, 1) := by decide +kernel
theorem dX3_add_40 : decode cX3_add 40 = .ok (.getfield 15, 3) := by decide +kernel
theorem dX3_add_43 : decode cX3_add 43 = .ok (.ireturn, 1) := by decide +kernel
theorem dX3_empty_0 : decode cX3_empty 0 = .ok (.aload_n 0, 1) := by decide +kernel
theorem dX3_empty_1 : decode cX3_empty 1 = .ok (.getfield 15, 3) := by decide +kernel
theorem dX3_empty_4 : decode cX3_empty 4 = .ok (.istore_n 1, 1) := by decide +kernel
theorem dX3_empty_5 : decode cX3_empty 5 = .ok (.aload_n 0, 1) := by decide +kernel
theorem dX3_empty_6 : decode cX3_empty 6 = .ok (.iconst 0, 1) := by decide +kernel
theorem dX3_empty_7 : decode cX3_empty 7 = .ok (.putfield 15, 3) := by decide +kernel
theorem dX3_empty_10 : decode cX3_empty 10 = .ok (.iload_n 1, 1) := by decide +kernel
theorem dX3_empty_11 : decode cX3_empty 11 = .ok (.ireturn, 1) := by decide +kernel
theorem dX3_position_0 : decode cX3_position 0 = .ok (.aload_n 0, 1) := by decide +kernel
theorem dX3_position_1 : decode cX3_position 1 = .ok (.getfield 19, 3) := by decide +kernel
theorem dX3_position_4 : decode cX3_position 4 = .ok (.ireturn, 1) := by decide +kernel
theorem dX3_questionsLeftOut_0 : decode cX3_questionsLeftOut 0 = .ok (.aload_n 0, 1) := by decide +kernel
theorem dX3_questionsLeftOut_1 : decode cX3_questionsLeftOut 1 = .ok (.getfield 22, 3) := by decide +kernel
theorem dX3_questionsLeftOut_4 : decode cX3_questionsLeftOut 4 = .ok (.ireturn, 1) := by decide +kernel
set_option maxRecDepth 20000 in
theorem ggX3_readInto_X3_sign : GoodIn wsX3_readInto wsX3_sign := goodIn_r _ [8, 1, 3, 9, 117, 118, 119, 120] (by decide +kernel) (by decide +kernel)
set_option maxRecDepth 20000 in
theorem gX3_readInto_X3_sign : GoodIn wsX3_readInto (wsV RX3 25 RX3 yX3_sign wsX3_sign) := goodIn_app (goodIn_of _ (by decide +kernel)) ggX3_readInto_X3_sign
set_option maxRecDepth 20000 in
theorem ggX3_readInto_X3_readNumber : GoodIn wsX3_readInto wsX3_readNumber := goodIn_r _ [13, 14, 15, 16, 17, 18, 19, 20, 21, 22, 23, 7, 24, 1, 4, 5, 6, 8, 3, 9, 117, 118, 119, 120] (by decide +kernel) (by decide +kernel)
set_option maxRecDepth 20000 in
theorem gX3_readInto_X3_readNumber : GoodIn wsX3_readInto (wsV RX3 29 RX3 yX3_readNumber wsX3_readNumber) := goodIn_app (goodIn_of _ (by decide +kernel)) ggX3_readInto_X3_readNumber
set_option maxRecDepth 20000 in
theorem ggX3_readInto_X0_makeNew : GoodIn wsX3_readInto wsX0_makeNew := goodIn_r _ [29, 30, 31, 32, 33, 34, 35, 36, 37, 38, 121, 122, 123, 124, 125, 126, 127, 128, 129, 130] (by decide +kernel) (by decide +kernel)
set_option maxRecDepth 20000 in
theorem gX3_readInto_X0_makeNew : GoodIn wsX3_readInto (wsV RX3 33 RX0 yX0_makeNew wsX0_makeNew) := goodIn_app (goodIn_of _ (by decide +kernel)) ggX3_readInto_X0_makeNew
set_option maxRecDepth 20000 in
theorem ggX3_readInto_X3_readCommand : GoodIn wsX3_readInto wsX3_readCommand := goodIn_r _ [42, 4, 5, 6, 7, 8, 1, 3, 9, 43, 44, 45, 46, 47, 10, 11, 12, 13, 14, 15, 16, 17, 18, 19, 20, 21, 22, 23, 24, 48, 49, 50, 28, 51, 38, 34, 52, 53, 54, 55, 56, 57, 58, 59, 60, 61, 62, 63, 64, 65, 37, 66, 67, 68, 69, 70, 71, 72, 73, 31, 32, 33, 74, 75, 76, 77, 78, 79, 80, 81, 2, 82, 83, 84, 85, 86, 87, 88, 89, 35, 36, 90, 91, 92, 93, 94, 95, 96, 97, 98, 99, 100, 101, 102, 103, 104, 105, 106, 107, 108, 109, 110, 111, 112, 113, 114, 115, 116, 117, 118, 119, 120, 121, 122, 123, 124, 125, 126, 127, 128, 129, 130] (by decide +kernel) (by decide +kernel)
set_option maxRecDepth 20000 in
theorem gX3_readInto_X3_readCommand : GoodIn wsX3_readInto (wsV RX3 39 RX3 yX3_readCommand wsX3_readCommand) := goodIn_app (goodIn_of _ (by decide +kernel)) ggX3_readInto_X3_readCommand
theorem dX3_readInto_0 : decode cX3_readInto 0 = .ok (.aload_n 0, 1) := by decide +kernel
theorem dX3_readInto_1 : decode cX3_readInto 1 = .ok (.iconst 0, 1) := by decide +kernel
theorem dX3_readInto_2 : decode cX3_readInto 2 = .ok (.putfield 19, 3) := by decide +kernel
theorem dX3_readInto_5 : decode cX3_readInto 5 = .ok (.aload_n 0, 1) := by decide +kernel
theorem dX3_readInto_6 : decode cX3_readInto 6 = .ok (.iconst 0, 1) := by decide +kernel
theorem dX3_readInto_7 : decode cX3_readInto 7 = .ok (.putfield 22, 3) := by decide +kernel
theorem dX3_readInto_10 : decode cX3_readInto 10 = .ok (.aload_n 0, 1) := by decide +kernel
theorem dX3_readInto_11 : decode cX3_readInto 11 = .ok (.invokevirtual 25, 3) := by decide +kernel
theorem dX3_readInto_14 : decode cX3_readInto 14 = .ok (.bipush 75, 2) := by decide +kernel
theorem dX3_readInto_16 : decode cX3_readInto 16 = .ok (.if_icmp .eq 5, 3) := by decide +kernel
theorem dX3_readInto_19 : decode cX3_readInto 19 = .ok (.iconst 0, 1) := by decide +kernel
theorem dX3_readInto_20 : decode cX3_readInto 20 = .ok (.ireturn, 1) := by decide +kernel
theorem dX3_readInto_21 : decode cX3_readInto 21 = .ok (.aload_n 0, 1) := by decide +kernel
theorem dX3_readInto_22 : decode cX3_readInto 22 = .ok (.dup, 1) := by decide +kernel
theorem dX3_readInto_23 : decode cX3_readInto 23 = .ok (.getfield 19, 3) := by decide +kernel
theorem dX3_readInto_26 : decode cX3_readInto 26 = .ok (.iconst 1, 1) := by decide +kernel
theorem dX3_readInto_27 : decode cX3_readInto 27 = .ok (.iadd, 1) := by decide +kernel
theorem dX3_readInto_28 : decode cX3_readInto 28 = .ok (.putfield 19, 3) := by decide +kernel
theorem dX3_readInto_31 : decode cX3_readInto 31 = .ok (.aload_n 0, 1) := by decide +kernel
theorem dX3_readInto_32 : decode cX3_readInto 32 = .ok (.bipush 8, 2) := by decide +kernel
theorem dX3_readInto_34 : decode cX3_readInto 34 = .ok (.bipush 40, 2) := by decide +kernel
theorem dX3_readInto_36 : decode cX3_readInto 36 = .ok (.invokevirtual 29, 3) := by decide +kernel
theorem dX3_readInto_39 : decode cX3_readInto 39 = .ok (.istore_n 2, 1) := by decide +kernel
theorem dX3_readInto_40 : decode cX3_readInto 40 = .ok (.iload_n 2, 1) := by decide +kernel
theorem dX3_readInto_41 : decode cX3_readInto 41 = .ok (.iconst (-1), 1) := by decide +kernel
theorem dX3_readInto_42 : decode cX3_readInto 42 = .ok (.if_icmp .ne 5, 3) := by decide +kernel
theorem dX3_readInto_45 : decode cX3_readInto 45 = .ok (.iconst 0, 1) := by decide +kernel
theorem dX3_readInto_46 : decode cX3_readInto 46 = .ok (.ireturn, 1) := by decide +kernel
theorem dX3_readInto_47 : decode cX3_readInto 47 = .ok (.aload_n 1, 1) := by decide +kernel
theorem dX3_readInto_48 : decode cX3_readInto 48 = .ok (.iload_n 2, 1) := by decide +kernel
theorem dX3_readInto_49 : decode cX3_readInto 49 = .ok (.invokevirtual 33, 3) := by decide +kernel
theorem dX3_readInto_52 : decode cX3_readInto 52 = .ok (.iconst 0, 1) := by decide +kernel
theorem dX3_readInto_53 : decode cX3_readInto 53 = .ok (.istore_n 3, 1) := by decide +kernel
theorem dX3_readInto_54 : decode cX3_readInto 54 = .ok (.iload_n 3, 1) := by decide +kernel
theorem dX3_readInto_55 : decode cX3_readInto 55 = .ok (.bipush 100, 2) := by decide +kernel
theorem dX3_readInto_57 : decode cX3_readInto 57 = .ok (.if_icmp .ge 30, 3) := by decide +kernel
theorem dX3_readInto_60 : decode cX3_readInto 60 = .ok (.aload_n 0, 1) := by decide +kernel
theorem dX3_readInto_61 : decode cX3_readInto 61 = .ok (.getfield 19, 3) := by decide +kernel
theorem dX3_readInto_64 : decode cX3_readInto 64 = .ok (.aload_n 0, 1) := by decide +kernel
theorem dX3_readInto_65 : decode cX3_readInto 65 = .ok (.getfield 15, 3) := by decide +kernel
theorem dX3_readInto_68 : decode cX3_readInto 68 = .ok (.if_icmp .ge 19, 3) := by decide +kernel
theorem dX3_readInto_71 : decode cX3_readInto 71 = .ok (.aload_n 0, 1) := by decide +kernel
theorem dX3_readInto_72 : decode cX3_readInto 72 = .ok (.aload_n 1, 1) := by decide +kernel
theorem dX3_readInto_73 : decode cX3_readInto 73 = .ok (.invokevirtual 39, 3) := by decide +kernel
theorem dX3_readInto_76 : decode cX3_readInto 76 = .ok (.ifCond .ne 5, 3) := by decide +kernel
theorem dX3_readInto_79 : decode cX3_readInto 79 = .ok (.iconst 0, 1) := by decide +kernel
theorem dX3_readInto_80 : decode cX3_readInto 80 = .ok (.ireturn, 1) := by decide +kernel
theorem dX3_readInto_81 : decode cX3_readInto 81 = .ok (.iinc 3 1, 3) := by decide +kernel
theorem dX3_readInto_84 : decode cX3_readInto 84 = .ok (.goto (-30), 3) := by decide +kernel
theorem dX3_readInto_87 : decode cX3_readInto 87 = .ok (.iconst 1, 1) := by decide +kernel
theorem dX3_readInto_88 : decode cX3_readInto 88 = .ok (.ireturn, 1) := by decide +kernel
set_option maxRecDepth 20000 in
theorem ggX3_readCommand_X3_sign : GoodIn wsX3_readCommand wsX3_sign := goodIn_r _ [5, 6, 7, 8, 108, 109, 110, 111] (by decide +kernel) (by decide +kernel)
set_option maxRecDepth 20000 in
theorem gX3_readCommand_X3_sign : GoodIn wsX3_readCommand (wsV RX3 25 RX3 yX3_sign wsX3_sign) := goodIn_app (goodIn_of _ (by decide +kernel)) ggX3_readCommand_X3_sign
set_option maxRecDepth 20000 in
theorem ggX3_readCommand_X3_readKey : GoodIn wsX3_readCommand wsX3_readKey := goodIn_r _ [12, 6, 13, 14, 15, 16, 4, 17, 18, 19, 20, 21, 22, 23, 24, 25, 26, 27, 28, 1, 2, 3, 5, 7, 8, 29, 30, 31, 32, 33, 34, 35, 36, 37, 38, 39, 40, 41, 42, 43, 44, 45, 46, 47, 48, 49, 50, 108, 109, 110, 111, 112, 113, 114, 115, 116, 117, 118, 119, 120, 121] (by decide +kernel) (by decide +kernel)
set_option maxRecDepth 20000 in
theorem gX3_readCommand_X3_readKey : GoodIn wsX3_readCommand (wsV RX3 43 RX3 yX3_readKey wsX3_readKey) := goodIn_app (goodIn_of _ (by decide +kernel)) ggX3_readCommand_X3_readKey
set_option maxRecDepth 20000 in
theorem ggX3_readCommand_X3_readSetting : GoodIn wsX3_readCommand wsX3_readSetting := goodIn_r _ [54, 6, 25, 26, 27, 4, 28, 1, 2, 3, 5, 7, 8, 55, 56, 57, 32, 58, 59, 60, 61, 62, 63, 64, 65, 50, 35, 108, 109, 110, 111, 112, 113, 114, 115, 116, 117, 118, 119, 120, 121] (by decide +kernel) (by decide +kernel)
set_option maxRecDepth 20000 in
theorem gX3_readCommand_X3_readSetting : GoodIn wsX3_readCommand (wsV RX3 46 RX3 yX3_readSetting wsX3_readSetting) := goodIn_app (goodIn_of _ (by decide +kernel)) ggX3_readCommand_X3_readSetting
set_option maxRecDepth 20000 in
theorem ggX3_readCommand_X3_readQuestion : GoodIn wsX3_readCommand wsX3_readQuestion := goodIn_r _ [69, 6, 13, 70, 14, 15, 16, 4, 17, 18, 19, 20, 21, 22, 23, 24, 25, 26, 27, 28, 1, 2, 3, 5, 7, 8, 71, 72, 73, 32, 74, 59, 75, 76, 77, 78, 79, 80, 81, 82, 83, 84, 34, 60, 85, 86, 87, 88, 89, 90, 91, 92, 93, 94, 95, 35, 40, 41, 42, 43, 44, 96, 97, 98, 99, 61, 100, 101, 102, 103, 45, 46, 47, 48, 49, 50, 104, 105, 106, 107, 108, 109, 110, 111, 112, 113, 114, 115, 116, 117, 118, 119, 120, 121] (by decide +kernel) (by decide +kernel)
set_option maxRecDepth 20000 in
theorem gX3_readCommand_X3_readQuestion : GoodIn wsX3_readCommand (wsV RX3 50 RX3 yX3_readQuestion wsX3_readQuestion) := goodIn_app (goodIn_of _ (by decide +kernel)) ggX3_readCommand_X3_readQuestion
theorem dX3_readCommand_0 : decode cX3_readCommand 0 = .ok (.aload_n 0, 1) := by decide +kernel
theorem dX3_readCommand_1 : decode cX3_readCommand 1 = .ok (.invokevirtual 25, 3) := by decide +kernel
theorem dX3_readCommand_4 : decode cX3_readCommand 4 = .ok (.lookupswitch 93 #[(102, 77), (107, 52), (113, 87), (115, 68), (119, 58)], 52) := by decide +kernel
theorem dX3_readCommand_56 : decode cX3_readCommand 56 = .ok (.aload_n 0, 1) := by decide +kernel
theorem dX3_readCommand_57 : decode cX3_readCommand 57 = .ok (.aload_n 1, 1) := by decide +kernel
theorem dX3_readCommand_58 : decode cX3_readCommand 58 = .ok (.invokevirtual 43, 3) := by decide +kernel
theorem dX3_readCommand_61 : decode cX3_readCommand 61 = .ok (.ireturn, 1) := by decide +kernel
theorem dX3_readCommand_62 : decode cX3_readCommand 62 = .ok (.aload_n 0, 1) := by decide +kernel
theorem dX3_readCommand_63 : decode cX3_readCommand 63 = .ok (.aload_n 1, 1) := by decide +kernel
theorem dX3_readCommand_64 : decode cX3_readCommand 64 = .ok (.iconst 0, 1) := by decide +kernel
theorem dX3_readCommand_65 : decode cX3_readCommand 65 = .ok (.iconst 1, 1) := by decide +kernel
theorem dX3_readCommand_66 : decode cX3_readCommand 66 = .ok (.bipush 8, 2) := by decide +kernel
theorem dX3_readCommand_68 : decode cX3_readCommand 68 = .ok (.invokevirtual 46, 3) := by decide +kernel
theorem dX3_readCommand_71 : decode cX3_readCommand 71 = .ok (.ireturn, 1) := by decide +kernel
theorem dX3_readCommand_72 : decode cX3_readCommand 72 = .ok (.aload_n 0, 1) := by decide +kernel
theorem dX3_readCommand_73 : decode cX3_readCommand 73 = .ok (.aload_n 1, 1) := by decide +kernel
theorem dX3_readCommand_74 : decode cX3_readCommand 74 = .ok (.iconst 1, 1) := by decide +kernel
theorem dX3_readCommand_75 : decode cX3_readCommand 75 = .ok (.iconst 0, 1) := by decide +kernel
theorem dX3_readCommand_76 : decode cX3_readCommand 76 = .ok (.iconst 4, 1) := by decide +kernel
theorem dX3_readCommand_77 : decode cX3_readCommand 77 = .ok (.invokevirtual 46, 3) := by decide +kernel
theorem dX3_readCommand_80 : decode cX3_readCommand 80 = .ok (.ireturn, 1) := by decide +kernel
theorem dX3_readCommand_81 : decode cX3_readCommand 81 = .ok (.aload_n 0, 1) := by decide +kernel
theorem dX3_readCommand_82 : decode cX3_readCommand 82 = .ok (.aload_n 1, 1) := by decide +kernel
theorem dX3_readCommand_83 : decode cX3_readCommand 83 = .ok (.iconst 2, 1) := by decide +kernel
theorem dX3_readCommand_84 : decode cX3_readCommand 84 = .ok (.iconst 0, 1) := by decide +kernel
theorem dX3_readCommand_85 : decode cX3_readCommand 85 = .ok (.bipush 9, 2) := by decide +kernel
theorem dX3_readCommand_87 : decode cX3_readCommand 87 = .ok (.invokevirtual 46, 3) := by decide +kernel
theorem dX3_readCommand_90 : decode cX3_readCommand 90 = .ok (.ireturn, 1) := by decide +kernel
theorem dX3_readCommand_91 : decode cX3_readCommand 91 = .ok (.aload_n 0, 1) := by decide +kernel
theorem dX3_readCommand_92 : decode cX3_readCommand 92 = .ok (.aload_n 1, 1) := by decide +kernel
theorem dX3_readCommand_93 : decode cX3_readCommand 93 = .ok (.invokevirtual 50, 3) := by decide +kernel
theorem dX3_readCommand_96 : decode cX3_readCommand 96 = .ok (.ireturn, 1) := by decide +kernel
theorem dX3_readCommand_97 : decode cX3_readCommand 97 = .ok (.iconst 0, 1) := by decide +kernel
theorem dX3_readCommand_98 : decode cX3_readCommand 98 = .ok (.ireturn, 1) := by decide +kernel
set_option maxRecDepth 20000 in
theorem ggX3_readKey_X3_readNumber : GoodIn wsX3_readKey wsX3_readNumber := goodIn_r _ [7, 8, 9, 10, 11, 12, 13, 14, 15, 16, 17, 6, 18, 1, 19, 20, 21, 22, 23, 24, 47, 48, 49, 50] (by decide +kernel) (by decide +kernel)
set_option maxRecDepth 20000 in
theorem gX3_readKey_X3_readNumber : GoodIn wsX3_readKey (wsV RX3 29 RX3 yX3_readNumber wsX3_readNumber) := goodIn_app (goodIn_of _ (by decide +kernel)) ggX3_readKey_X3_readNumber
set_option maxRecDepth 20000 in
theorem ggX3_readKey_X0_putKey : GoodIn wsX3_readKey wsX0_putKey := goodIn_r _ [29, 30, 31, 32, 33, 34, 28, 35, 36, 37, 38, 39, 40, 41, 42, 43, 44, 45, 9, 10, 11, 46, 51, 52, 53, 54, 55, 56, 57, 58, 59, 60] (by decide +kernel) (by decide +kernel)
set_option maxRecDepth 20000 in
theorem gX3_readKey_X0_putKey : GoodIn wsX3_readKey (wsV RX3 56 RX0 yX0_putKey wsX0_putKey) := goodIn_app (goodIn_of _ (by decide +kernel)) ggX3_readKey_X0_putKey
theorem dX3_readKey_0 : decode cX3_readKey 0 = .ok (.aload_n 0, 1) := by decide +kernel
theorem dX3_readKey_1 : decode cX3_readKey 1 = .ok (.dup, 1) := by decide +kernel
theorem dX3_readKey_2 : decode cX3_readKey 2 = .ok (.getfield 19, 3) := by decide +kernel
theorem dX3_readKey_5 : decode cX3_readKey 5 = .ok (.iconst 1, 1) := by decide +kernel
theorem dX3_readKey_6 : decode cX3_readKey 6 = .ok (.iadd, 1) := by decide +kernel
theorem dX3_readKey_7 : decode cX3_readKey 7 = .ok (.putfield 19, 3) := by decide +kernel
theorem dX3_readKey_10 : decode cX3_readKey 10 = .ok (.aload_n 0, 1) := by decide +kernel
theorem dX3_readKey_11 : decode cX3_readKey 11 = .ok (.iconst 0, 1) := by decide +kernel
theorem dX3_readKey_12 : decode cX3_readKey 12 = .ok (.aload_n 1, 1) := by decide +kernel
theorem dX3_readKey_13 : decode cX3_readKey 13 = .ok (.getfield 53, 3) := by decide +kernel
theorem dX3_readKey_16 : decode cX3_readKey 16 = .ok (.iconst 1, 1) := by decide +kernel
theorem dX3_readKey_17 : decode cX3_readKey 17 = .ok (.isub, 1) := by decide +kernel
theorem dX3_readKey_18 : decode cX3_readKey 18 = .ok (.invokevirtual 29, 3) := by decide +kernel
theorem dX3_readKey_21 : decode cX3_readKey 21 = .ok (.istore_n 2, 1) := by decide +kernel
theorem dX3_readKey_22 : decode cX3_readKey 22 = .ok (.iload_n 2, 1) := by decide +kernel
theorem dX3_readKey_23 : decode cX3_readKey 23 = .ok (.iconst (-1), 1) := by decide +kernel
theorem dX3_readKey_24 : decode cX3_readKey 24 = .ok (.if_icmp .ne 5, 3) := by decide +kernel
theorem dX3_readKey_27 : decode cX3_readKey 27 = .ok (.iconst 0, 1) := by decide +kernel
theorem dX3_readKey_28 : decode cX3_readKey 28 = .ok (.ireturn, 1) := by decide +kernel
theorem dX3_readKey_29 : decode cX3_readKey 29 = .ok (.aload_n 1, 1) := by decide +kernel
theorem dX3_readKey_30 : decode cX3_readKey 30 = .ok (.iload_n 2, 1) := by decide +kernel
theorem dX3_readKey_31 : decode cX3_readKey 31 = .ok (.iconst 1, 1) := by decide +kernel
theorem dX3_readKey_32 : decode cX3_readKey 32 = .ok (.invokevirtual 56, 3) := by decide +kernel
theorem dX3_readKey_35 : decode cX3_readKey 35 = .ok (.pop, 1) := by decide +kernel
theorem dX3_readKey_36 : decode cX3_readKey 36 = .ok (.iconst 1, 1) := by decide +kernel
theorem dX3_readKey_37 : decode cX3_readKey 37 = .ok (.ireturn, 1) := by decide +kernel
set_option maxRecDepth 20000 in
theorem ggX3_readSetting_X3_readDigit : GoodIn wsX3_readSetting wsX3_readDigit := goodIn_r _ [6, 1, 7, 8, 9, 5, 10, 11, 12, 27, 28, 29, 30] (by decide +kernel) (by decide +kernel)
set_option maxRecDepth 20000 in
theorem gX3_readSetting_X3_readDigit : GoodIn wsX3_readSetting (wsV RX3 60 RX3 yX3_readDigit wsX3_readDigit) := goodIn_app (goodIn_of _ (by decide +kernel)) ggX3_readSetting_X3_readDigit
set_option maxRecDepth 20000 in
theorem ggX3_readSetting_X0_change : GoodIn wsX3_readSetting wsX0_change := goodIn_r _ [17, 18, 19, 20, 21, 22, 23, 16, 24, 25, 26, 31, 32, 33, 34, 35, 36, 37, 38, 39, 40] (by decide +kernel) (by decide +kernel)
set_option maxRecDepth 20000 in
theorem gX3_readSetting_X0_change : GoodIn wsX3_readSetting (wsV RX3 63 RX0 yX0_change wsX0_change) := goodIn_app (goodIn_of _ (by decide +kernel)) ggX3_readSetting_X0_change
theorem dX3_readSetting_0 : decode cX3_readSetting 0 = .ok (.aload_n 0, 1) := by decide +kernel
theorem dX3_readSetting_1 : decode cX3_readSetting 1 = .ok (.dup, 1) := by decide +kernel
theorem dX3_readSetting_2 : decode cX3_readSetting 2 = .ok (.getfield 19, 3) := by decide +kernel
theorem dX3_readSetting_5 : decode cX3_readSetting 5 = .ok (.iconst 1, 1) := by decide +kernel
theorem dX3_readSetting_6 : decode cX3_readSetting 6 = .ok (.iadd, 1) := by decide +kernel
theorem dX3_readSetting_7 : decode cX3_readSetting 7 = .ok (.putfield 19, 3) := by decide +kernel
theorem dX3_readSetting_10 : decode cX3_readSetting 10 = .ok (.aload_n 0, 1) := by decide +kernel
theorem dX3_readSetting_11 : decode cX3_readSetting 11 = .ok (.iload_n 3, 1) := by decide +kernel
theorem dX3_readSetting_12 : decode cX3_readSetting 12 = .ok (.iload 4, 2) := by decide +kernel
theorem dX3_readSetting_14 : decode cX3_readSetting 14 = .ok (.invokevirtual 60, 3) := by decide +kernel
theorem dX3_readSetting_17 : decode cX3_readSetting 17 = .ok (.istore 5, 2) := by decide +kernel
theorem dX3_readSetting_19 : decode cX3_readSetting 19 = .ok (.iload 5, 2) := by decide +kernel
theorem dX3_readSetting_21 : decode cX3_readSetting 21 = .ok (.iconst (-1), 1) := by decide +kernel
theorem dX3_readSetting_22 : decode cX3_readSetting 22 = .ok (.if_icmp .ne 5, 3) := by decide +kernel
theorem dX3_readSetting_25 : decode cX3_readSetting 25 = .ok (.iconst 0, 1) := by decide +kernel
theorem dX3_readSetting_26 : decode cX3_readSetting 26 = .ok (.ireturn, 1) := by decide +kernel
theorem dX3_readSetting_27 : decode cX3_readSetting 27 = .ok (.aload_n 1, 1) := by decide +kernel
theorem dX3_readSetting_28 : decode cX3_readSetting 28 = .ok (.iload_n 2, 1) := by decide +kernel
theorem dX3_readSetting_29 : decode cX3_readSetting 29 = .ok (.iload 5, 2) := by decide +kernel
theorem dX3_readSetting_31 : decode cX3_readSetting 31 = .ok (.invokevirtual 63, 3) := by decide +kernel
theorem dX3_readSetting_34 : decode cX3_readSetting 34 = .ok (.pop, 1) := by decide +kernel
theorem dX3_readSetting_35 : decode cX3_readSetting 35 = .ok (.iconst 1, 1) := by decide +kernel
theorem dX3_readSetting_36 : decode cX3_readSetting 36 = .ok (.ireturn, 1) := by decide +kernel
set_option maxRecDepth 20000 in
theorem ggX3_readQuestion_X3_readNumber : GoodIn wsX3_readQuestion wsX3_readNumber := goodIn_r _ [8, 9, 10, 11, 12, 13, 14, 15, 16, 17, 18, 7, 19, 1, 20, 21, 22, 23, 24, 25, 80, 81, 82, 83] (by decide +kernel) (by decide +kernel)
set_option maxRecDepth 20000 in
theorem gX3_readQuestion_X3_readNumber : GoodIn wsX3_readQuestion (wsV RX3 29 RX3 yX3_readNumber wsX3_readNumber) := goodIn_app (goodIn_of _ (by decide +kernel)) ggX3_readQuestion_X3_readNumber
set_option maxRecDepth 20000 in
theorem ggX3_readQuestion_X0_isNarrow : GoodIn wsX3_readQuestion wsX0_isNarrow := goodIn_r _ [30, 31, 84, 85, 86, 87, 88, 89, 90, 91, 92, 93] (by decide +kernel) (by decide +kernel)
set_option maxRecDepth 20000 in
theorem gX3_readQuestion_X0_isNarrow : GoodIn wsX3_readQuestion (wsV RX3 66 RX0 yX0_isNarrow wsX0_isNarrow) := goodIn_app (goodIn_of _ (by decide +kernel)) ggX3_readQuestion_X0_isNarrow
set_option maxRecDepth 20000 in
theorem ggX3_readQuestion_X0_question : GoodIn wsX3_readQuestion wsX0_question := goodIn_r _ [35, 36, 37, 38, 39, 40, 29, 41, 42, 43, 44, 45, 46, 47, 48, 49, 50, 51, 52, 53, 54, 55, 56, 57, 58, 59, 60, 61, 62, 63, 64, 65, 66, 67, 68, 69, 70, 71, 72, 73, 74, 10, 11, 12, 75, 76, 77, 78, 79, 84, 85, 86, 87, 88, 89, 90, 91, 92, 93] (by decide +kernel) (by decide +kernel)
set_option maxRecDepth 20000 in
theorem gX3_readQuestion_X0_question : GoodIn wsX3_readQuestion (wsV RX3 70 RX0 yX0_question wsX0_question) := goodIn_app (goodIn_of _ (by decide +kernel)) ggX3_readQuestion_X0_question
theorem dX3_readQuestion_0 : decode cX3_readQuestion 0 = .ok (.aload_n 0, 1) := by decide +kernel
theorem dX3_readQuestion_1 : decode cX3_readQuestion 1 = .ok (.dup, 1) := by decide +kernel
theorem dX3_readQuestion_2 : decode cX3_readQuestion 2 = .ok (.getfield 19, 3) := by decide +kernel
theorem dX3_readQuestion_5 : decode cX3_readQuestion 5 = .ok (.iconst 1, 1) := by decide +kernel
theorem dX3_readQuestion_6 : decode cX3_readQuestion 6 = .ok (.iadd, 1) := by decide +kernel
theorem dX3_readQuestion_7 : decode cX3_readQuestion 7 = .ok (.putfield 19, 3) := by decide +kernel
theorem dX3_readQuestion_10 : decode cX3_readQuestion 10 = .ok (.aload_n 0, 1) := by decide +kernel
theorem dX3_readQuestion_11 : decode cX3_readQuestion 11 = .ok (.iconst 0, 1) := by decide +kernel
theorem dX3_readQuestion_12 : decode cX3_readQuestion 12 = .ok (.aload_n 1, 1) := by decide +kernel
theorem dX3_readQuestion_13 : decode cX3_readQuestion 13 = .ok (.getfield 53, 3) := by decide +kernel
theorem dX3_readQuestion_16 : decode cX3_readQuestion 16 = .ok (.iconst 1, 1) := by decide +kernel
theorem dX3_readQuestion_17 : decode cX3_readQuestion 17 = .ok (.isub, 1) := by decide +kernel
theorem dX3_readQuestion_18 : decode cX3_readQuestion 18 = .ok (.invokevirtual 29, 3) := by decide +kernel
theorem dX3_readQuestion_21 : decode cX3_readQuestion 21 = .ok (.istore_n 2, 1) := by decide +kernel
theorem dX3_readQuestion_22 : decode cX3_readQuestion 22 = .ok (.iload_n 2, 1) := by decide +kernel
theorem dX3_readQuestion_23 : decode cX3_readQuestion 23 = .ok (.iconst (-1), 1) := by decide +kernel
theorem dX3_readQuestion_24 : decode cX3_readQuestion 24 = .ok (.if_icmp .ne 5, 3) := by decide +kernel
theorem dX3_readQuestion_27 : decode cX3_readQuestion 27 = .ok (.iconst 0, 1) := by decide +kernel
theorem dX3_readQuestion_28 : decode cX3_readQuestion 28 = .ok (.ireturn, 1) := by decide +kernel
theorem dX3_readQuestion_29 : decode cX3_readQuestion 29 = .ok (.aload_n 0, 1) := by decide +kernel
theorem dX3_readQuestion_30 : decode cX3_readQuestion 30 = .ok (.iload_n 2, 1) := by decide +kernel
theorem dX3_readQuestion_31 : decode cX3_readQuestion 31 = .ok (.aload_n 1, 1) := by decide +kernel
theorem dX3_readQuestion_32 : decode cX3_readQuestion 32 = .ok (.getfield 53, 3) := by decide +kernel
theorem dX3_readQuestion_35 : decode cX3_readQuestion 35 = .ok (.iconst 1, 1) := by decide +kernel
theorem dX3_readQuestion_36 : decode cX3_readQuestion 36 = .ok (.isub, 1) := by decide +kernel
theorem dX3_readQuestion_37 : decode cX3_readQuestion 37 = .ok (.invokevirtual 29, 3) := by decide +kernel
theorem dX3_readQuestion_40 : decode cX3_readQuestion 40 = .ok (.istore_n 3, 1) := by decide +kernel
theorem dX3_readQuestion_41 : decode cX3_readQuestion 41 = .ok (.iload_n 3, 1) := by decide +kernel
theorem dX3_readQuestion_42 : decode cX3_readQuestion 42 = .ok (.iconst (-1), 1) := by decide +kernel
theorem dX3_readQuestion_43 : decode cX3_readQuestion 43 = .ok (.if_icmp .ne 5, 3) := by decide +kernel
theorem dX3_readQuestion_46 : decode cX3_readQuestion 46 = .ok (.iconst 0, 1) := by decide +kernel
theorem dX3_readQuestion_47 : decode cX3_readQuestion 47 = .ok (.ireturn, 1) := by decide +kernel
theorem dX3_readQuestion_48 : decode cX3_readQuestion 48 = .ok (.aload_n 1, 1) := by decide +kernel
theorem dX3_readQuestion_49 : decode cX3_readQuestion 49 = .ok (.iload_n 2, 1) := by decide +kernel
theorem dX3_readQuestion_50 : decode cX3_readQuestion 50 = .ok (.iload_n 3, 1) := by decide +kernel
theorem dX3_readQuestion_51 : decode cX3_readQuestion 51 = .ok (.invokevirtual 66, 3) := by decide +kernel
theorem dX3_readQuestion_54 : decode cX3_readQuestion 54 = .ok (.ifCond .eq 16, 3) := by decide +kernel
theorem dX3_readQuestion_57 : decode cX3_readQuestion 57 = .ok (.aload_n 0, 1) := by decide +kernel
theorem dX3_readQuestion_58 : decode cX3_readQuestion 58 = .ok (.dup, 1) := by decide +kernel
theorem dX3_readQuestion_59 : decode cX3_readQuestion 59 = .ok (.getfield 22, 3) := by decide +kernel
theorem dX3_readQuestion_62 : decode cX3_readQuestion 62 = .ok (.iconst 1, 1) := by decide +kernel
theorem dX3_readQuestion_63 : decode cX3_readQuestion 63 = .ok (.iadd, 1) := by decide +kernel
theorem dX3_readQuestion_64 : decode cX3_readQuestion 64 = .ok (.putfield 22, 3) := by decide +kernel
theorem dX3_readQuestion_67 : decode cX3_readQuestion 67 = .ok (.goto 10, 3) := by decide +kernel
theorem dX3_readQuestion_70 : decode cX3_readQuestion 70 = .ok (.aload_n 1, 1) := by decide +kernel
theorem dX3_readQuestion_71 : decode cX3_readQuestion 71 = .ok (.iload_n 2, 1) := by decide +kernel
theorem dX3_readQuestion_72 : decode cX3_readQuestion 72 = .ok (.iload_n 3, 1) := by decide +kernel
theorem dX3_readQuestion_73 : decode cX3_readQuestion 73 = .ok (.invokevirtual 70, 3) := by decide +kernel
theorem dX3_readQuestion_76 : decode cX3_readQuestion 76 = .ok (.pop, 1) := by decide +kernel
theorem dX3_readQuestion_77 : decode cX3_readQuestion 77 = .ok (.iconst 1, 1) := by decide +kernel
theorem dX3_readQuestion_78 : decode cX3_readQuestion 78 = .ok (.ireturn, 1) := by decide +kernel
set_option maxRecDepth 20000 in
theorem ggX3_readNumber_X3_readDigit : GoodIn wsX3_readNumber wsX3_readDigit := goodIn_r _ [12, 13, 14, 15, 16, 11, 17, 18, 19, 20, 21, 22, 23] (by decide +kernel) (by decide +kernel)
set_option maxRecDepth 20000 in
theorem gX3_readNumber_X3_readDigit : GoodIn wsX3_readNumber (wsV RX3 60 RX3 yX3_readDigit wsX3_readDigit) := goodIn_app (goodIn_of _ (by decide +kernel)) ggX3_readNumber_X3_readDigit
theorem dX3_readNumber_0 : decode cX3_readNumber 0 = .ok (.aload_n 0, 1) := by decide +kernel
theorem dX3_readNumber_1 : decode cX3_readNumber 1 = .ok (.iload_n 1, 1) := by decide +kernel
theorem dX3_readNumber_2 : decode cX3_readNumber 2 = .ok (.bipush 10, 2) := by decide +kernel
theorem dX3_readNumber_4 : decode cX3_readNumber 4 = .ok (.idiv, 1) := by decide +kernel
theorem dX3_readNumber_5 : decode cX3_readNumber 5 = .ok (.iload_n 2, 1) := by decide +kernel
theorem dX3_readNumber_6 : decode cX3_readNumber 6 = .ok (.bipush 10, 2) := by decide +kernel
theorem dX3_readNumber_8 : decode cX3_readNumber 8 = .ok (.idiv, 1) := by decide +kernel
theorem dX3_readNumber_9 : decode cX3_readNumber 9 = .ok (.invokevirtual 60, 3) := by decide +kernel
theorem dX3_readNumber_12 : decode cX3_readNumber 12 = .ok (.istore_n 3, 1) := by decide +kernel
theorem dX3_readNumber_13 : decode cX3_readNumber 13 = .ok (.iload_n 3, 1) := by decide +kernel
theorem dX3_readNumber_14 : decode cX3_readNumber 14 = .ok (.iconst (-1), 1) := by decide +kernel
theorem dX3_readNumber_15 : decode cX3_readNumber 15 = .ok (.if_icmp .ne 5, 3) := by decide +kernel
theorem dX3_readNumber_18 : decode cX3_readNumber 18 = .ok (.iconst (-1), 1) := by decide +kernel
theorem dX3_readNumber_19 : decode cX3_readNumber 19 = .ok (.ireturn, 1) := by decide +kernel
theorem dX3_readNumber_20 : decode cX3_readNumber 20 = .ok (.aload_n 0, 1) := by decide +kernel
theorem dX3_readNumber_21 : decode cX3_readNumber 21 = .ok (.iconst 0, 1) := by decide +kernel
theorem dX3_readNumber_22 : decode cX3_readNumber 22 = .ok (.iload_n 1, 1) := by decide +kernel
theorem dX3_readNumber_23 : decode cX3_readNumber 23 = .ok (.bipush 10, 2) := by decide +kernel
theorem dX3_readNumber_25 : decode cX3_readNumber 25 = .ok (.iload_n 3, 1) := by decide +kernel
theorem dX3_readNumber_26 : decode cX3_readNumber 26 = .ok (.imul, 1) := by decide +kernel
theorem dX3_readNumber_27 : decode cX3_readNumber 27 = .ok (.isub, 1) := by decide +kernel
theorem dX3_readNumber_28 : decode cX3_readNumber 28 = .ok (.invokestatic 73, 3) := by decide +kernel
theorem dX3_readNumber_31 : decode cX3_readNumber 31 = .ok (.bipush 9, 2) := by decide +kernel
theorem dX3_readNumber_33 : decode cX3_readNumber 33 = .ok (.iload_n 2, 1) := by decide +kernel
theorem dX3_readNumber_34 : decode cX3_readNumber 34 = .ok (.bipush 10, 2) := by decide +kernel
theorem dX3_readNumber_36 : decode cX3_readNumber 36 = .ok (.iload_n 3, 1) := by decide +kernel
theorem dX3_readNumber_37 : decode cX3_readNumber 37 = .ok (.imul, 1) := by decide +kernel
theorem dX3_readNumber_38 : decode cX3_readNumber 38 = .ok (.isub, 1) := by decide +kernel
theorem dX3_readNumber_39 : decode cX3_readNumber 39 = .ok (.invokestatic 78, 3) := by decide +kernel
theorem dX3_readNumber_42 : decode cX3_readNumber 42 = .ok (.invokevirtual 60, 3) := by decide +kernel
theorem dX3_readNumber_45 : decode cX3_readNumber 45 = .ok (.istore 4, 2) := by decide +kernel
theorem dX3_readNumber_47 : decode cX3_readNumber 47 = .ok (.iload 4, 2) := by decide +kernel
theorem dX3_readNumber_49 : decode cX3_readNumber 49 = .ok (.iconst (-1), 1) := by decide +kernel
theorem dX3_readNumber_50 : decode cX3_readNumber 50 = .ok (.if_icmp .ne 7, 3) := by decide +kernel
theorem dX3_readNumber_53 : decode cX3_readNumber 53 = .ok (.iconst (-1), 1) := by decide +kernel
theorem dX3_readNumber_54 : decode cX3_readNumber 54 = .ok (.goto 10, 3) := by decide +kernel
theorem dX3_readNumber_57 : decode cX3_readNumber 57 = .ok (.bipush 10, 2) := by decide +kernel
theorem dX3_readNumber_59 : decode cX3_readNumber 59 = .ok (.iload_n 3, 1) := by decide +kernel
theorem dX3_readNumber_60 : decode cX3_readNumber 60 = .ok (.imul, 1) := by decide +kernel
theorem dX3_readNumber_61 : decode cX3_readNumber 61 = .ok (.iload 4, 2) := by decide +kernel
theorem dX3_readNumber_63 : decode cX3_readNumber 63 = .ok (.iadd, 1) := by decide +kernel
theorem dX3_readNumber_64 : decode cX3_readNumber 64 = .ok (.ireturn, 1) := by decide +kernel
set_option maxRecDepth 20000 in
theorem ggX3_readDigit_X3_sign : GoodIn wsX3_readDigit wsX3_sign := goodIn_r _ [6, 1, 7, 8, 9, 10, 11, 12] (by decide +kernel) (by decide +kernel)
set_option maxRecDepth 20000 in
theorem gX3_readDigit_X3_sign : GoodIn wsX3_readDigit (wsV RX3 25 RX3 yX3_sign wsX3_sign) := goodIn_app (goodIn_of _ (by decide +kernel)) ggX3_readDigit_X3_sign
theorem dX3_readDigit_0 : decode cX3_readDigit 0 = .ok (.aload_n 0, 1) := by decide +kernel
theorem dX3_readDigit_1 : decode cX3_readDigit 1 = .ok (.invokevirtual 25, 3) := by decide +kernel
theorem dX3_readDigit_4 : decode cX3_readDigit 4 = .ok (.bipush 48, 2) := by decide +kernel
theorem dX3_readDigit_6 : decode cX3_readDigit 6 = .ok (.isub, 1) := by decide +kernel
theorem dX3_readDigit_7 : decode cX3_readDigit 7 = .ok (.istore_n 3, 1) := by decide +kernel
theorem dX3_readDigit_8 : decode cX3_readDigit 8 = .ok (.iload_n 3, 1) := by decide +kernel
theorem dX3_readDigit_9 : decode cX3_readDigit 9 = .ok (.iload_n 1, 1) := by decide +kernel
theorem dX3_readDigit_10 : decode cX3_readDigit 10 = .ok (.if_icmp .lt 8, 3) := by decide +kernel
theorem dX3_readDigit_13 : decode cX3_readDigit 13 = .ok (.iload_n 3, 1) := by decide +kernel
theorem dX3_readDigit_14 : decode cX3_readDigit 14 = .ok (.iload_n 2, 1) := by decide +kernel
theorem dX3_readDigit_15 : decode cX3_readDigit 15 = .ok (.if_icmp .le 5, 3) := by decide +kernel
theorem dX3_readDigit_18 : decode cX3_readDigit 18 = .ok (.iconst (-1), 1) := by decide +kernel
theorem dX3_readDigit_19 : decode cX3_readDigit 19 = .ok (.ireturn, 1) := by decide +kernel
theorem dX3_readDigit_20 : decode cX3_readDigit 20 = .ok (.aload_n 0, 1) := by decide +kernel
theorem dX3_readDigit_21 : decode cX3_readDigit 21 = .ok (.dup, 1) := by decide +kernel
theorem dX3_readDigit_22 : decode cX3_readDigit 22 = .ok (.getfield 19, 3) := by decide +kernel
theorem dX3_readDigit_25 : decode cX3_readDigit 25 = .ok (.iconst 1, 1) := by decide +kernel
theorem dX3_readDigit_26 : decode cX3_readDigit 26 = .ok (.iadd, 1) := by decide +kernel
theorem dX3_readDigit_27 : decode cX3_readDigit 27 = .ok (.putfield 19, 3) := by decide +kernel
theorem dX3_readDigit_30 : decode cX3_readDigit 30 = .ok (.iload_n 3, 1) := by decide +kernel
theorem dX3_readDigit_31 : decode cX3_readDigit 31 = .ok (.ireturn, 1) := by decide +kernel
theorem dX3_sign_0 : decode cX3_sign 0 = .ok (.aload_n 0, 1) := by decide +kernel
theorem dX3_sign_1 : decode cX3_sign 1 = .ok (.getfield 19, 3) := by decide +kernel
theorem dX3_sign_4 : decode cX3_sign 4 = .ok (.ifCond .lt 38, 3) := by decide +kernel
theorem dX3_sign_7 : decode cX3_sign 7 = .ok (.aload_n 0, 1) := by decide +kernel
theorem dX3_sign_8 : decode cX3_sign 8 = .ok (.getfield 19, 3) := by decide +kernel
theorem dX3_sign_11 : decode cX3_sign 11 = .ok (.aload_n 0, 1) := by decide +kernel
theorem dX3_sign_12 : decode cX3_sign 12 = .ok (.getfield 15, 3) := by decide +kernel
theorem dX3_sign_15 : decode cX3_sign 15 = .ok (.if_icmp .ge 27, 3) := by decide +kernel
theorem dX3_sign_18 : decode cX3_sign 18 = .ok (.aload_n 0, 1) := by decide +kernel
theorem dX3_sign_19 : decode cX3_sign 19 = .ok (.getfield 19, 3) := by decide +kernel
theorem dX3_sign_22 : decode cX3_sign 22 = .ok (.aload_n 0, 1) := by decide +kernel
theorem dX3_sign_23 : decode cX3_sign 23 = .ok (.getfield 9, 3) := by decide +kernel
theorem dX3_sign_26 : decode cX3_sign 26 = .ok (.arraylength, 1) := by decide +kernel
theorem dX3_sign_27 : decode cX3_sign 27 = .ok (.if_icmp .ge 15, 3) := by decide +kernel
theorem dX3_sign_30 : decode cX3_sign 30 = .ok (.aload_n 0, 1) := by decide +kernel
theorem dX3_sign_31 : decode cX3_sign 31 = .ok (.getfield 9, 3) := by decide +kernel
theorem dX3_sign_34 : decode cX3_sign 34 = .ok (.aload_n 0, 1) := by decide +kernel
theorem dX3_sign_35 : decode cX3_sign 35 = .ok (.getfield 19, 3) := by decide +kernel
theorem dX3_sign_38 : decode cX3_sign 38 = .ok (.caload, 1) := by decide +kernel
theorem dX3_sign_39 : decode cX3_sign 39 = .ok (.goto 4, 3) := by decide +kernel
theorem dX3_sign_42 : decode cX3_sign 42 = .ok (.iconst (-1), 1) := by decide +kernel
theorem dX3_sign_43 : decode cX3_sign 43 = .ok (.ireturn, 1) := by decide +kernel
set_option maxRecDepth 20000 in
theorem ggX4_init_X3_init : GoodIn wsX4_init wsX3_init := goodIn_r _ [23, 24, 2, 3, 25, 26, 54, 55, 56, 57] (by decide +kernel) (by decide +kernel)
set_option maxRecDepth 20000 in
theorem gX4_init_X3_init_n9 : GoodIn wsX4_init (wsX3_init) := ggX4_init_X3_init
set_option maxRecDepth 20000 in
theorem ggX4_init_X0_init : GoodIn wsX4_init wsX0_init := goodIn_r _ [28, 29, 2, 3, 30, 31, 64, 65, 66, 67, 68, 69, 70, 71, 72, 73] (by decide +kernel) (by decide +kernel)
set_option maxRecDepth 20000 in
theorem gX4_init_X0_init_n18 : GoodIn wsX4_init (wsX0_init) := ggX4_init_X0_init
set_option maxRecDepth 20000 in
theorem ggX4_init_X1_init : GoodIn wsX4_init wsX1_init := goodIn_r _ [33, 34, 2, 3, 30, 35, 74, 75] (by decide +kernel) (by decide +kernel)
set_option maxRecDepth 20000 in
theorem gX4_init_X1_init_n28 : GoodIn wsX4_init (wsX1_init) := ggX4_init_X1_init
set_option maxRecDepth 20000 in
theorem ggX4_init_X2_init : GoodIn wsX4_init wsX2_init := goodIn_r _ [37, 38, 2, 3, 39, 40, 76, 77, 78] (by decide +kernel) (by decide +kernel)
set_option maxRecDepth 20000 in
theorem gX4_init_X2_init_n35 : GoodIn wsX4_init (wsX2_init) := ggX4_init_X2_init
set_option maxRecDepth 20000 in
theorem ggX4_init_X0_makeNew : GoodIn wsX4_init wsX0_makeNew := goodIn_r _ [44, 45, 46, 47, 48, 49, 50, 51, 52, 53, 64, 65, 66, 67, 68, 69, 70, 71, 72, 73] (by decide +kernel) (by decide +kernel)
set_option maxRecDepth 20000 in
theorem gX4_init_X0_makeNew : GoodIn wsX4_init (wsV RX4 44 RX0 yX0_makeNew wsX0_makeNew) := goodIn_app (goodIn_of _ (by decide +kernel)) ggX4_init_X0_makeNew
