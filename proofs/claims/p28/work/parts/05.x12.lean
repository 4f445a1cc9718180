theorem dX1_init_0 : decode cX1_init 0 = .ok (.aload_n 0, 1) := by decide +kernel
theorem dX1_init_1 : decode cX1_init 1 = .ok (.invokespecial 3, 3) := by decide +kernel
theorem dX1_init_4 : decode cX1_init 4 = .ok (.aload_n 0, 1) := by decide +kernel
theorem dX1_init_5 : decode cX1_init 5 = .ok (.sipush 1681, 3) := by decide +kernel
theorem dX1_init_8 : decode cX1_init 8 = .ok (.newarray .int, 2) := by decide +kernel
theorem dX1_init_10 : decode cX1_init 10 = .ok (.putfield 11, 3) := by decide +kernel
theorem dX1_init_13 : decode cX1_init 13 = .ok (.return_, 1) := by decide +kernel
set_option maxRecDepth 20000 in
theorem ggX1_learnFrom_X1_learnNothing : GoodIn wsX1_learnFrom wsX1_learnNothing := goodIn_r _ [8, 2, 9, 10, 11, 12, 13, 14, 15, 7, 16, 17, 56, 57] (by decide +kernel) (by decide +kernel)
set_option maxRecDepth 20000 in
theorem gX1_learnFrom_X1_learnNothing : GoodIn wsX1_learnFrom (wsV RX1 22 RX1 yX1_learnNothing wsX1_learnNothing) := goodIn_app (goodIn_of _ (by decide +kernel)) ggX1_learnFrom_X1_learnNothing
set_option maxRecDepth 20000 in
theorem ggX1_learnFrom_X0_cell : GoodIn wsX1_learnFrom wsX0_cell := goodIn_r _ [22, 23, 46, 47, 48, 49, 50, 51, 52, 53, 54, 55] (by decide +kernel) (by decide +kernel)
set_option maxRecDepth 20000 in
theorem gX1_learnFrom_X0_cell : GoodIn wsX1_learnFrom (wsV RX1 28 RX0 yX0_cell wsX0_cell) := goodIn_app (goodIn_of _ (by decide +kernel)) ggX1_learnFrom_X0_cell
set_option maxRecDepth 20000 in
theorem ggX1_learnFrom_X0_greatestTold : GoodIn wsX1_learnFrom wsX0_greatestTold := goodIn_r _ [27, 28, 29, 19, 20, 21, 22, 23, 46, 47, 48, 49, 50, 51, 52, 53, 54, 55] (by decide +kernel) (by decide +kernel)
set_option maxRecDepth 20000 in
theorem gX1_learnFrom_X0_greatestTold : GoodIn wsX1_learnFrom (wsV RX1 32 RX0 yX0_greatestTold wsX0_greatestTold) := goodIn_app (goodIn_of _ (by decide +kernel)) ggX1_learnFrom_X0_greatestTold
set_option maxRecDepth 20000 in
theorem ggX1_learnFrom_X1_bound : GoodIn wsX1_learnFrom wsX1_bound := goodIn_r _ [33, 2, 34, 35, 36, 7, 37, 17, 38, 39, 40, 41, 13, 14, 15, 16, 56, 57] (by decide +kernel) (by decide +kernel)
set_option maxRecDepth 20000 in
theorem gX1_learnFrom_X1_bound : GoodIn wsX1_learnFrom (wsV RX1 36 RX1 yX1_bound wsX1_bound) := goodIn_app (goodIn_of _ (by decide +kernel)) ggX1_learnFrom_X1_bound
set_option maxRecDepth 20000 in
theorem ggX1_learnFrom_X0_fewestTold : GoodIn wsX1_learnFrom wsX0_fewestTold := goodIn_r _ [45, 29, 19, 20, 21, 22, 23, 46, 47, 48, 49, 50, 51, 52, 53, 54, 55] (by decide +kernel) (by decide +kernel)
set_option maxRecDepth 20000 in
theorem gX1_learnFrom_X0_fewestTold : GoodIn wsX1_learnFrom (wsV RX1 40 RX0 yX0_fewestTold wsX0_fewestTold) := goodIn_app (goodIn_of _ (by decide +kernel)) ggX1_learnFrom_X0_fewestTold
theorem dX1_learnFrom_0 : decode cX1_learnFrom 0 = .ok (.aload_n 0, 1) := by decide +kernel
theorem dX1_learnFrom_1 : decode cX1_learnFrom 1 = .ok (.aload_n 1, 1) := by decide +kernel
theorem dX1_learnFrom_2 : decode cX1_learnFrom 2 = .ok (.getfield 15, 3) := by decide +kernel
theorem dX1_learnFrom_5 : decode cX1_learnFrom 5 = .ok (.putfield 21, 3) := by decide +kernel
theorem dX1_learnFrom_8 : decode cX1_learnFrom 8 = .ok (.aload_n 0, 1) := by decide +kernel
theorem dX1_learnFrom_9 : decode cX1_learnFrom 9 = .ok (.invokevirtual 22, 3) := by decide +kernel
theorem dX1_learnFrom_12 : decode cX1_learnFrom 12 = .ok (.iconst 0, 1) := by decide +kernel
theorem dX1_learnFrom_13 : decode cX1_learnFrom 13 = .ok (.istore_n 3, 1) := by decide +kernel
theorem dX1_learnFrom_14 : decode cX1_learnFrom 14 = .ok (.iload_n 3, 1) := by decide +kernel
theorem dX1_learnFrom_15 : decode cX1_learnFrom 15 = .ok (.aload_n 1, 1) := by decide +kernel
theorem dX1_learnFrom_16 : decode cX1_learnFrom 16 = .ok (.getfield 25, 3) := by decide +kernel
theorem dX1_learnFrom_19 : decode cX1_learnFrom 19 = .ok (.if_icmp .ge 59, 3) := by decide +kernel
theorem dX1_learnFrom_22 : decode cX1_learnFrom 22 = .ok (.iload_n 3, 1) := by decide +kernel
theorem dX1_learnFrom_23 : decode cX1_learnFrom 23 = .ok (.iload_n 2, 1) := by decide +kernel
theorem dX1_learnFrom_24 : decode cX1_learnFrom 24 = .ok (.if_icmp .eq 48, 3) := by decide +kernel
theorem dX1_learnFrom_27 : decode cX1_learnFrom 27 = .ok (.aload_n 1, 1) := by decide +kernel
theorem dX1_learnFrom_28 : decode cX1_learnFrom 28 = .ok (.iload_n 3, 1) := by decide +kernel
theorem dX1_learnFrom_29 : decode cX1_learnFrom 29 = .ok (.iconst 0, 1) := by decide +kernel
theorem dX1_learnFrom_30 : decode cX1_learnFrom 30 = .ok (.invokevirtual 28, 3) := by decide +kernel
theorem dX1_learnFrom_33 : decode cX1_learnFrom 33 = .ok (.istore 4, 2) := by decide +kernel
theorem dX1_learnFrom_35 : decode cX1_learnFrom 35 = .ok (.aload_n 1, 1) := by decide +kernel
theorem dX1_learnFrom_36 : decode cX1_learnFrom 36 = .ok (.iload_n 3, 1) := by decide +kernel
theorem dX1_learnFrom_37 : decode cX1_learnFrom 37 = .ok (.iconst 1, 1) := by decide +kernel
theorem dX1_learnFrom_38 : decode cX1_learnFrom 38 = .ok (.invokevirtual 28, 3) := by decide +kernel
theorem dX1_learnFrom_41 : decode cX1_learnFrom 41 = .ok (.iconst 1, 1) := by decide +kernel
theorem dX1_learnFrom_42 : decode cX1_learnFrom 42 = .ok (.iadd, 1) := by decide +kernel
theorem dX1_learnFrom_43 : decode cX1_learnFrom 43 = .ok (.istore 5, 2) := by decide +kernel
theorem dX1_learnFrom_45 : decode cX1_learnFrom 45 = .ok (.aload_n 0, 1) := by decide +kernel
theorem dX1_learnFrom_46 : decode cX1_learnFrom 46 = .ok (.iload 4, 2) := by decide +kernel
theorem dX1_learnFrom_48 : decode cX1_learnFrom 48 = .ok (.iload 5, 2) := by decide +kernel
theorem dX1_learnFrom_50 : decode cX1_learnFrom 50 = .ok (.aload_n 1, 1) := by decide +kernel
theorem dX1_learnFrom_51 : decode cX1_learnFrom 51 = .ok (.iload_n 3, 1) := by decide +kernel
theorem dX1_learnFrom_52 : decode cX1_learnFrom 52 = .ok (.invokevirtual 32, 3) := by decide +kernel
theorem dX1_learnFrom_55 : decode cX1_learnFrom 55 = .ok (.invokevirtual 36, 3) := by decide +kernel
theorem dX1_learnFrom_58 : decode cX1_learnFrom 58 = .ok (.aload_n 0, 1) := by decide +kernel
theorem dX1_learnFrom_59 : decode cX1_learnFrom 59 = .ok (.iload 5, 2) := by decide +kernel
theorem dX1_learnFrom_61 : decode cX1_learnFrom 61 = .ok (.iload 4, 2) := by decide +kernel
theorem dX1_learnFrom_63 : decode cX1_learnFrom 63 = .ok (.aload_n 1, 1) := by decide +kernel
theorem dX1_learnFrom_64 : decode cX1_learnFrom 64 = .ok (.iload_n 3, 1) := by decide +kernel
theorem dX1_learnFrom_65 : decode cX1_learnFrom 65 = .ok (.invokevirtual 40, 3) := by decide +kernel
theorem dX1_learnFrom_68 : decode cX1_learnFrom 68 = .ok (.ineg, 1) := by decide +kernel
theorem dX1_learnFrom_69 : decode cX1_learnFrom 69 = .ok (.invokevirtual 36, 3) := by decide +kernel
theorem dX1_learnFrom_72 : decode cX1_learnFrom 72 = .ok (.iinc 3 1, 3) := by decide +kernel
theorem dX1_learnFrom_75 : decode cX1_learnFrom 75 = .ok (.goto (-61), 3) := by decide +kernel
theorem dX1_learnFrom_78 : decode cX1_learnFrom 78 = .ok (.return_, 1) := by decide +kernel
set_option maxRecDepth 20000 in
theorem ggX1_learnNothing_X1_putExcess : GoodIn wsX1_learnNothing wsX1_putExcess := goodIn_r _ [10, 11, 12, 13] (by decide +kernel) (by decide +kernel)
set_option maxRecDepth 20000 in
theorem gX1_learnNothing_X1_putExcess : GoodIn wsX1_learnNothing (wsV RX1 48 RX1 yX1_putExcess wsX1_putExcess) := goodIn_app (goodIn_of _ (by decide +kernel)) ggX1_learnNothing_X1_putExcess
theorem dX1_learnNothing_0 : decode cX1_learnNothing 0 = .ok (.iconst 0, 1) := by decide +kernel
theorem dX1_learnNothing_1 : decode cX1_learnNothing 1 = .ok (.istore_n 1, 1) := by decide +kernel
theorem dX1_learnNothing_2 : decode cX1_learnNothing 2 = .ok (.iload_n 1, 1) := by decide +kernel
theorem dX1_learnNothing_3 : decode cX1_learnNothing 3 = .ok (.aload_n 0, 1) := by decide +kernel
theorem dX1_learnNothing_4 : decode cX1_learnNothing 4 = .ok (.getfield 21, 3) := by decide +kernel
theorem dX1_learnNothing_7 : decode cX1_learnNothing 7 = .ok (.if_icmp .gt 38, 3) := by decide +kernel
theorem dX1_learnNothing_10 : decode cX1_learnNothing 10 = .ok (.iconst 0, 1) := by decide +kernel
theorem dX1_learnNothing_11 : decode cX1_learnNothing 11 = .ok (.istore_n 2, 1) := by decide +kernel
theorem dX1_learnNothing_12 : decode cX1_learnNothing 12 = .ok (.iload_n 2, 1) := by decide +kernel
theorem dX1_learnNothing_13 : decode cX1_learnNothing 13 = .ok (.aload_n 0, 1) := by decide +kernel
theorem dX1_learnNothing_14 : decode cX1_learnNothing 14 = .ok (.getfield 21, 3) := by decide +kernel
theorem dX1_learnNothing_17 : decode cX1_learnNothing 17 = .ok (.if_icmp .gt 22, 3) := by decide +kernel
theorem dX1_learnNothing_20 : decode cX1_learnNothing 20 = .ok (.aload_n 0, 1) := by decide +kernel
theorem dX1_learnNothing_21 : decode cX1_learnNothing 21 = .ok (.iload_n 1, 1) := by decide +kernel
theorem dX1_learnNothing_22 : decode cX1_learnNothing 22 = .ok (.iload_n 2, 1) := by decide +kernel
theorem dX1_learnNothing_23 : decode cX1_learnNothing 23 = .ok (.iconst 0, 1) := by decide +kernel
theorem dX1_learnNothing_24 : decode cX1_learnNothing 24 = .ok (.iload_n 2, 1) := by decide +kernel
theorem dX1_learnNothing_25 : decode cX1_learnNothing 25 = .ok (.iload_n 1, 1) := by decide +kernel
theorem dX1_learnNothing_26 : decode cX1_learnNothing 26 = .ok (.isub, 1) := by decide +kernel
theorem dX1_learnNothing_27 : decode cX1_learnNothing 27 = .ok (.invokestatic 43, 3) := by decide +kernel
theorem dX1_learnNothing_30 : decode cX1_learnNothing 30 = .ok (.invokevirtual 48, 3) := by decide +kernel
theorem dX1_learnNothing_33 : decode cX1_learnNothing 33 = .ok (.iinc 2 1, 3) := by decide +kernel
theorem dX1_learnNothing_36 : decode cX1_learnNothing 36 = .ok (.goto (-24), 3) := by decide +kernel
theorem dX1_learnNothing_39 : decode cX1_learnNothing 39 = .ok (.iinc 1 1, 3) := by decide +kernel
theorem dX1_learnNothing_42 : decode cX1_learnNothing 42 = .ok (.goto (-40), 3) := by decide +kernel
theorem dX1_learnNothing_45 : decode cX1_learnNothing 45 = .ok (.return_, 1) := by decide +kernel
set_option maxRecDepth 20000 in
theorem ggX1_bound_X1_excessOf : GoodIn wsX1_bound wsX1_excessOf := goodIn_r _ [6, 7, 16, 17] (by decide +kernel) (by decide +kernel)
set_option maxRecDepth 20000 in
theorem gX1_bound_X1_excessOf : GoodIn wsX1_bound (wsV RX1 51 RX1 yX1_excessOf wsX1_excessOf) := goodIn_app (goodIn_of _ (by decide +kernel)) ggX1_bound_X1_excessOf
set_option maxRecDepth 20000 in
theorem ggX1_bound_X1_shorten : GoodIn wsX1_bound wsX1_shorten := goodIn_r _ [11, 1, 2, 3, 4, 5, 6, 7, 12, 13, 14, 15, 16, 17] (by decide +kernel) (by decide +kernel)
set_option maxRecDepth 20000 in
theorem gX1_bound_X1_shorten : GoodIn wsX1_bound (wsV RX1 54 RX1 yX1_shorten wsX1_shorten) := goodIn_app (goodIn_of _ (by decide +kernel)) ggX1_bound_X1_shorten
theorem dX1_bound_0 : decode cX1_bound 0 = .ok (.iconst 0, 1) := by decide +kernel
theorem dX1_bound_1 : decode cX1_bound 1 = .ok (.istore 4, 2) := by decide +kernel
theorem dX1_bound_3 : decode cX1_bound 3 = .ok (.iload 4, 2) := by decide +kernel
theorem dX1_bound_5 : decode cX1_bound 5 = .ok (.aload_n 0, 1) := by decide +kernel
theorem dX1_bound_6 : decode cX1_bound 6 = .ok (.getfield 21, 3) := by decide +kernel
theorem dX1_bound_9 : decode cX1_bound 9 = .ok (.if_icmp .gt 41, 3) := by decide +kernel
theorem dX1_bound_12 : decode cX1_bound 12 = .ok (.aload_n 0, 1) := by decide +kernel
theorem dX1_bound_13 : decode cX1_bound 13 = .ok (.iload 4, 2) := by decide +kernel
theorem dX1_bound_15 : decode cX1_bound 15 = .ok (.iload_n 1, 1) := by decide +kernel
theorem dX1_bound_16 : decode cX1_bound 16 = .ok (.invokevirtual 51, 3) := by decide +kernel
theorem dX1_bound_19 : decode cX1_bound 19 = .ok (.iload_n 3, 1) := by decide +kernel
theorem dX1_bound_20 : decode cX1_bound 20 = .ok (.iadd, 1) := by decide +kernel
theorem dX1_bound_21 : decode cX1_bound 21 = .ok (.istore 5, 2) := by decide +kernel
theorem dX1_bound_23 : decode cX1_bound 23 = .ok (.iload 5, 2) := by decide +kernel
theorem dX1_bound_25 : decode cX1_bound 25 = .ok (.aload_n 0, 1) := by decide +kernel
theorem dX1_bound_26 : decode cX1_bound 26 = .ok (.iload 4, 2) := by decide +kernel
theorem dX1_bound_28 : decode cX1_bound 28 = .ok (.iload_n 2, 1) := by decide +kernel
theorem dX1_bound_29 : decode cX1_bound 29 = .ok (.invokevirtual 51, 3) := by decide +kernel
theorem dX1_bound_32 : decode cX1_bound 32 = .ok (.if_icmp .ge 12, 3) := by decide +kernel
theorem dX1_bound_35 : decode cX1_bound 35 = .ok (.aload_n 0, 1) := by decide +kernel
theorem dX1_bound_36 : decode cX1_bound 36 = .ok (.iload 4, 2) := by decide +kernel
theorem dX1_bound_38 : decode cX1_bound 38 = .ok (.iload_n 2, 1) := by decide +kernel
theorem dX1_bound_39 : decode cX1_bound 39 = .ok (.iload 5, 2) := by decide +kernel
theorem dX1_bound_41 : decode cX1_bound 41 = .ok (.invokevirtual 54, 3) := by decide +kernel
theorem dX1_bound_44 : decode cX1_bound 44 = .ok (.iinc 4 1, 3) := by decide +kernel
theorem dX1_bound_47 : decode cX1_bound 47 = .ok (.goto (-44), 3) := by decide +kernel
theorem dX1_bound_50 : decode cX1_bound 50 = .ok (.return_, 1) := by decide +kernel
set_option maxRecDepth 20000 in
theorem ggX1_shorten_X1_excessOf : GoodIn wsX1_shorten wsX1_excessOf := goodIn_r _ [6, 7, 12, 13] (by decide +kernel) (by decide +kernel)
set_option maxRecDepth 20000 in
theorem gX1_shorten_X1_excessOf : GoodIn wsX1_shorten (wsV RX1 51 RX1 yX1_excessOf wsX1_excessOf) := goodIn_app (goodIn_of _ (by decide +kernel)) ggX1_shorten_X1_excessOf
set_option maxRecDepth 20000 in
theorem ggX1_shorten_X1_putExcess : GoodIn wsX1_shorten wsX1_putExcess := goodIn_r _ [11, 7, 12, 13] (by decide +kernel) (by decide +kernel)
set_option maxRecDepth 20000 in
theorem gX1_shorten_X1_putExcess : GoodIn wsX1_shorten (wsV RX1 48 RX1 yX1_putExcess wsX1_putExcess) := goodIn_app (goodIn_of _ (by decide +kernel)) ggX1_shorten_X1_putExcess
theorem dX1_shorten_0 : decode cX1_shorten 0 = .ok (.iconst 0, 1) := by decide +kernel
theorem dX1_shorten_1 : decode cX1_shorten 1 = .ok (.istore 4, 2) := by decide +kernel
theorem dX1_shorten_3 : decode cX1_shorten 3 = .ok (.iload 4, 2) := by decide +kernel
theorem dX1_shorten_5 : decode cX1_shorten 5 = .ok (.aload_n 0, 1) := by decide +kernel
theorem dX1_shorten_6 : decode cX1_shorten 6 = .ok (.getfield 21, 3) := by decide +kernel
theorem dX1_shorten_9 : decode cX1_shorten 9 = .ok (.if_icmp .gt 41, 3) := by decide +kernel
theorem dX1_shorten_12 : decode cX1_shorten 12 = .ok (.iload_n 3, 1) := by decide +kernel
theorem dX1_shorten_13 : decode cX1_shorten 13 = .ok (.aload_n 0, 1) := by decide +kernel
theorem dX1_shorten_14 : decode cX1_shorten 14 = .ok (.iload_n 2, 1) := by decide +kernel
theorem dX1_shorten_15 : decode cX1_shorten 15 = .ok (.iload 4, 2) := by decide +kernel
theorem dX1_shorten_17 : decode cX1_shorten 17 = .ok (.invokevirtual 51, 3) := by decide +kernel
theorem dX1_shorten_20 : decode cX1_shorten 20 = .ok (.iadd, 1) := by decide +kernel
theorem dX1_shorten_21 : decode cX1_shorten 21 = .ok (.istore 5, 2) := by decide +kernel
theorem dX1_shorten_23 : decode cX1_shorten 23 = .ok (.iload 5, 2) := by decide +kernel
theorem dX1_shorten_25 : decode cX1_shorten 25 = .ok (.aload_n 0, 1) := by decide +kernel
theorem dX1_shorten_26 : decode cX1_shorten 26 = .ok (.iload_n 1, 1) := by decide +kernel
theorem dX1_shorten_27 : decode cX1_shorten 27 = .ok (.iload 4, 2) := by decide +kernel
theorem dX1_shorten_29 : decode cX1_shorten 29 = .ok (.invokevirtual 51, 3) := by decide +kernel
theorem dX1_shorten_32 : decode cX1_shorten 32 = .ok (.if_icmp .ge 12, 3) := by decide +kernel
theorem dX1_shorten_35 : decode cX1_shorten 35 = .ok (.aload_n 0, 1) := by decide +kernel
theorem dX1_shorten_36 : decode cX1_shorten 36 = .ok (.iload_n 1, 1) := by decide +kernel
theorem dX1_shorten_37 : decode cX1_shorten 37 = .ok (.iload 4, 2) := by decide +kernel
theorem dX1_shorten_39 : decode cX1_shorten 39 = .ok (.iload 5, 2) := by decide +kernel
theorem dX1_shorten_41 : decode cX1_shorten 41 = .ok (.invokevirtual 48, 3) := by decide +kernel
theorem dX1_shorten_44 : decode cX1_shorten 44 = .ok (.iinc 4 1, 3) := by decide +kernel
theorem dX1_shorten_47 : decode cX1_shorten 47 = .ok (.goto (-44), 3) := by decide +kernel
theorem dX1_shorten_50 : decode cX1_shorten 50 = .ok (.return_, 1) := by decide +kernel
theorem dX1_excessOf_0 : decode cX1_excessOf 0 = .ok (.iload_n 1, 1) := by decide +kernel
theorem dX1_excessOf_1 : decode cX1_excessOf 1 = .ok (.bipush 41, 2) := by decide +kernel
theorem dX1_excessOf_3 : decode cX1_excessOf 3 = .ok (.imul, 1) := by decide +kernel
theorem dX1_excessOf_4 : decode cX1_excessOf 4 = .ok (.iload_n 2, 1) := by decide +kernel
theorem dX1_excessOf_5 : decode cX1_excessOf 5 = .ok (.iadd, 1) := by decide +kernel
theorem dX1_excessOf_6 : decode cX1_excessOf 6 = .ok (.istore_n 3, 1) := by decide +kernel
theorem dX1_excessOf_7 : decode cX1_excessOf 7 = .ok (.iload_n 3, 1) := by decide +kernel
theorem dX1_excessOf_8 : decode cX1_excessOf 8 = .ok (.ifCond .lt 21, 3) := by decide +kernel
theorem dX1_excessOf_11 : decode cX1_excessOf 11 = .ok (.iload_n 3, 1) := by decide +kernel
theorem dX1_excessOf_12 : decode cX1_excessOf 12 = .ok (.aload_n 0, 1) := by decide +kernel
theorem dX1_excessOf_13 : decode cX1_excessOf 13 = .ok (.getfield 11, 3) := by decide +kernel
theorem dX1_excessOf_16 : decode cX1_excessOf 16 = .ok (.arraylength, 1) := by decide +kernel
theorem dX1_excessOf_17 : decode cX1_excessOf 17 = .ok (.if_icmp .ge 12, 3) := by decide +kernel
theorem dX1_excessOf_20 : decode cX1_excessOf 20 = .ok (.aload_n 0, 1) := by decide +kernel
theorem dX1_excessOf_21 : decode cX1_excessOf 21 = .ok (.getfield 11, 3) := by decide +kernel
theorem dX1_excessOf_24 : decode cX1_excessOf 24 = .ok (.iload_n 3, 1) := by decide +kernel
theorem dX1_excessOf_25 : decode cX1_excessOf 25 = .ok (.iaload, 1) := by decide +kernel
theorem dX1_excessOf_26 : decode cX1_excessOf 26 = .ok (.goto 4, 3) := by decide +kernel
theorem dX1_excessOf_29 : decode cX1_excessOf 29 = .ok (.iconst 0, 1) := by decide +kernel
theorem dX1_excessOf_30 : decode cX1_excessOf 30 = .ok (.ireturn, 1) := by decide +kernel
theorem dX1_putExcess_0 : decode cX1_putExcess 0 = .ok (.iload_n 1, 1) := by decide +kernel
theorem dX1_putExcess_1 : decode cX1_putExcess 1 = .ok (.bipush 41, 2) := by decide +kernel
theorem dX1_putExcess_3 : decode cX1_putExcess 3 = .ok (.imul, 1) := by decide +kernel
theorem dX1_putExcess_4 : decode cX1_putExcess 4 = .ok (.iload_n 2, 1) := by decide +kernel
theorem dX1_putExcess_5 : decode cX1_putExcess 5 = .ok (.iadd, 1) := by decide +kernel
theorem dX1_putExcess_6 : decode cX1_putExcess 6 = .ok (.istore 4, 2) := by decide +kernel
theorem dX1_putExcess_8 : decode cX1_putExcess 8 = .ok (.iload 4, 2) := by decide +kernel
theorem dX1_putExcess_10 : decode cX1_putExcess 10 = .ok (.ifCond .lt 21, 3) := by decide +kernel
theorem dX1_putExcess_13 : decode cX1_putExcess 13 = .ok (.iload 4, 2) := by decide +kernel
theorem dX1_putExcess_15 : decode cX1_putExcess 15 = .ok (.aload_n 0, 1) := by decide +kernel
theorem dX1_putExcess_16 : decode cX1_putExcess 16 = .ok (.getfield 11, 3) := by decide +kernel
theorem dX1_putExcess_19 : decode cX1_putExcess 19 = .ok (.arraylength, 1) := by decide +kernel
theorem dX1_putExcess_20 : decode cX1_putExcess 20 = .ok (.if_icmp .ge 11, 3) := by decide +kernel
theorem dX1_putExcess_23 : decode cX1_putExcess 23 = .ok (.aload_n 0, 1) := by decide +kernel
theorem dX1_putExcess_24 : decode cX1_putExcess 24 = .ok (.getfield 11, 3) := by decide +kernel
theorem dX1_putExcess_27 : decode cX1_putExcess 27 = .ok (.iload 4, 2) := by decide +kernel
theorem dX1_putExcess_29 : decode cX1_putExcess 29 = .ok (.iload_n 3, 1) := by decide +kernel
theorem dX1_putExcess_30 : decode cX1_putExcess 30 = .ok (.iastore, 1) := by decide +kernel
theorem dX1_putExcess_31 : decode cX1_putExcess 31 = .ok (.return_, 1) := by decide +kernel
set_option maxRecDepth 20000 in
theorem ggX1_fewestKeys_X1_excessOf : GoodIn wsX1_fewestKeys wsX1_excessOf := goodIn_r _ [5, 6, 7, 8] (by decide +kernel) (by decide +kernel)
set_option maxRecDepth 20000 in
theorem gX1_fewestKeys_X1_excessOf : GoodIn wsX1_fewestKeys (wsV RX1 51 RX1 yX1_excessOf wsX1_excessOf) := goodIn_app (goodIn_of _ (by decide +kernel)) ggX1_fewestKeys_X1_excessOf
theorem dX1_fewestKeys_0 : decode cX1_fewestKeys 0 = .ok (.aload_n 0, 1) := by decide +kernel
theorem dX1_fewestKeys_1 : decode cX1_fewestKeys 1 = .ok (.iload_n 2, 1) := by decide +kernel
theorem dX1_fewestKeys_2 : decode cX1_fewestKeys 2 = .ok (.iconst 1, 1) := by decide +kernel
theorem dX1_fewestKeys_3 : decode cX1_fewestKeys 3 = .ok (.iadd, 1) := by decide +kernel
theorem dX1_fewestKeys_4 : decode cX1_fewestKeys 4 = .ok (.iload_n 1, 1) := by decide +kernel
theorem dX1_fewestKeys_5 : decode cX1_fewestKeys 5 = .ok (.invokevirtual 51, 3) := by decide +kernel
theorem dX1_fewestKeys_8 : decode cX1_fewestKeys 8 = .ok (.ineg, 1) := by decide +kernel
theorem dX1_fewestKeys_9 : decode cX1_fewestKeys 9 = .ok (.ireturn, 1) := by decide +kernel
set_option maxRecDepth 20000 in
theorem ggX1_greatestKeys_X1_excessOf : GoodIn wsX1_greatestKeys wsX1_excessOf := goodIn_r _ [5, 6, 7, 8] (by decide +kernel) (by decide +kernel)
set_option maxRecDepth 20000 in
theorem gX1_greatestKeys_X1_excessOf : GoodIn wsX1_greatestKeys (wsV RX1 51 RX1 yX1_excessOf wsX1_excessOf) := goodIn_app (goodIn_of _ (by decide +kernel)) ggX1_greatestKeys_X1_excessOf
theorem dX1_greatestKeys_0 : decode cX1_greatestKeys 0 = .ok (.aload_n 0, 1) := by decide +kernel
theorem dX1_greatestKeys_1 : decode cX1_greatestKeys 1 = .ok (.iload_n 1, 1) := by decide +kernel
theorem dX1_greatestKeys_2 : decode cX1_greatestKeys 2 = .ok (.iload_n 2, 1) := by decide +kernel
theorem dX1_greatestKeys_3 : decode cX1_greatestKeys 3 = .ok (.iconst 1, 1) := by decide +kernel
theorem dX1_greatestKeys_4 : decode cX1_greatestKeys 4 = .ok (.iadd, 1) := by decide +kernel
theorem dX1_greatestKeys_5 : decode cX1_greatestKeys 5 = .ok (.invokevirtual 51, 3) := by decide +kernel
theorem dX1_greatestKeys_8 : decode cX1_greatestKeys 8 = .ok (.ireturn, 1) := by decide +kernel
set_option maxRecDepth 20000 in
theorem ggX1_sure_X1_fewestKeys : GoodIn wsX1_sure wsX1_fewestKeys := goodIn_r _ [5, 6, 7, 8, 4, 9, 10, 15, 16] (by decide +kernel) (by decide +kernel)
set_option maxRecDepth 20000 in
theorem gX1_sure_X1_fewestKeys : GoodIn wsX1_sure (wsV RX1 57 RX1 yX1_fewestKeys wsX1_fewestKeys) := goodIn_app (goodIn_of _ (by decide +kernel)) ggX1_sure_X1_fewestKeys
set_option maxRecDepth 20000 in
theorem ggX1_sure_X1_greatestKeys : GoodIn wsX1_sure wsX1_greatestKeys := goodIn_r _ [14, 6, 7, 8, 4, 9, 10, 15, 16] (by decide +kernel) (by decide +kernel)
set_option maxRecDepth 20000 in
theorem gX1_sure_X1_greatestKeys : GoodIn wsX1_sure (wsV RX1 60 RX1 yX1_greatestKeys wsX1_greatestKeys) := goodIn_app (goodIn_of _ (by decide +kernel)) ggX1_sure_X1_greatestKeys
theorem dX1_sure_0 : decode cX1_sure 0 = .ok (.aload_n 0, 1) := by decide +kernel
theorem dX1_sure_1 : decode cX1_sure 1 = .ok (.iload_n 1, 1) := by decide +kernel
theorem dX1_sure_2 : decode cX1_sure 2 = .ok (.iload_n 1, 1) := by decide +kernel
theorem dX1_sure_3 : decode cX1_sure 3 = .ok (.invokevirtual 57, 3) := by decide +kernel
theorem dX1_sure_6 : decode cX1_sure 6 = .ok (.istore_n 2, 1) := by decide +kernel
theorem dX1_sure_7 : decode cX1_sure 7 = .ok (.iload_n 2, 1) := by decide +kernel
theorem dX1_sure_8 : decode cX1_sure 8 = .ok (.aload_n 0, 1) := by decide +kernel
theorem dX1_sure_9 : decode cX1_sure 9 = .ok (.iload_n 1, 1) := by decide +kernel
theorem dX1_sure_10 : decode cX1_sure 10 = .ok (.iload_n 1, 1) := by decide +kernel
theorem dX1_sure_11 : decode cX1_sure 11 = .ok (.invokevirtual 60, 3) := by decide +kernel
theorem dX1_sure_14 : decode cX1_sure 14 = .ok (.if_icmp .ne 7, 3) := by decide +kernel
theorem dX1_sure_17 : decode cX1_sure 17 = .ok (.iload_n 2, 1) := by decide +kernel
theorem dX1_sure_18 : decode cX1_sure 18 = .ok (.goto 4, 3) := by decide +kernel
theorem dX1_sure_21 : decode cX1_sure 21 = .ok (.iconst (-1), 1) := by decide +kernel
theorem dX1_sure_22 : decode cX1_sure 22 = .ok (.ireturn, 1) := by decide +kernel
set_option maxRecDepth 20000 in
theorem ggX1_countSure_X1_sure : GoodIn wsX1_countSure wsX1_sure := goodIn_r _ [6, 7, 8, 9, 5, 10, 11, 12, 13, 14, 15, 16, 17, 18, 19, 20, 21] (by decide +kernel) (by decide +kernel)
set_option maxRecDepth 20000 in
theorem gX1_countSure_X1_sure : GoodIn wsX1_countSure (wsV RX1 63 RX1 yX1_sure wsX1_sure) := goodIn_app (goodIn_of _ (by decide +kernel)) ggX1_countSure_X1_sure
theorem dX1_countSure_0 : decode cX1_countSure 0 = .ok (.iconst 0, 1) := by decide +kernel
theorem dX1_countSure_1 : decode cX1_countSure 1 = .ok (.istore_n 1, 1) := by decide +kernel
theorem dX1_countSure_2 : decode cX1_countSure 2 = .ok (.iconst 0, 1) := by decide +kernel
theorem dX1_countSure_3 : decode cX1_countSure 3 = .ok (.istore_n 2, 1) := by decide +kernel
theorem dX1_countSure_4 : decode cX1_countSure 4 = .ok (.iload_n 2, 1) := by decide +kernel
theorem dX1_countSure_5 : decode cX1_countSure 5 = .ok (.aload_n 0, 1) := by decide +kernel
theorem dX1_countSure_6 : decode cX1_countSure 6 = .ok (.getfield 21, 3) := by decide +kernel
theorem dX1_countSure_9 : decode cX1_countSure 9 = .ok (.if_icmp .ge 21, 3) := by decide +kernel
theorem dX1_countSure_12 : decode cX1_countSure 12 = .ok (.aload_n 0, 1) := by decide +kernel
theorem dX1_countSure_13 : decode cX1_countSure 13 = .ok (.iload_n 2, 1) := by decide +kernel
theorem dX1_countSure_14 : decode cX1_countSure 14 = .ok (.invokevirtual 63, 3) := by decide +kernel
theorem dX1_countSure_17 : decode cX1_countSure 17 = .ok (.iconst (-1), 1) := by decide +kernel
theorem dX1_countSure_18 : decode cX1_countSure 18 = .ok (.if_icmp .eq 6, 3) := by decide +kernel
theorem dX1_countSure_21 : decode cX1_countSure 21 = .ok (.iinc 1 1, 3) := by decide +kernel
theorem dX1_countSure_24 : decode cX1_countSure 24 = .ok (.iinc 2 1, 3) := by decide +kernel
theorem dX1_countSure_27 : decode cX1_countSure 27 = .ok (.goto (-23), 3) := by decide +kernel
theorem dX1_countSure_30 : decode cX1_countSure 30 = .ok (.iload_n 1, 1) := by decide +kernel
theorem dX1_countSure_31 : decode cX1_countSure 31 = .ok (.ireturn, 1) := by decide +kernel
set_option maxRecDepth 20000 in
theorem ggX1_surePlace_X1_sure : GoodIn wsX1_surePlace wsX1_sure := goodIn_r _ [6, 7, 8, 9, 5, 10, 11, 12, 13, 14, 15, 16, 17, 18, 19, 20, 21] (by decide +kernel) (by decide +kernel)
set_option maxRecDepth 20000 in
theorem gX1_surePlace_X1_sure : GoodIn wsX1_surePlace (wsV RX1 63 RX1 yX1_sure wsX1_sure) := goodIn_app (goodIn_of _ (by decide +kernel)) ggX1_surePlace_X1_sure
theorem dX1_surePlace_0 : decode cX1_surePlace 0 = .ok (.iload_n 1, 1) := by decide +kernel
theorem dX1_surePlace_1 : decode cX1_surePlace 1 = .ok (.istore_n 2, 1) := by decide +kernel
theorem dX1_surePlace_2 : decode cX1_surePlace 2 = .ok (.iconst 0, 1) := by decide +kernel
theorem dX1_surePlace_3 : decode cX1_surePlace 3 = .ok (.istore_n 3, 1) := by decide +kernel
theorem dX1_surePlace_4 : decode cX1_surePlace 4 = .ok (.iload_n 3, 1) := by decide +kernel
theorem dX1_surePlace_5 : decode cX1_surePlace 5 = .ok (.aload_n 0, 1) := by decide +kernel
theorem dX1_surePlace_6 : decode cX1_surePlace 6 = .ok (.getfield 21, 3) := by decide +kernel
theorem dX1_surePlace_9 : decode cX1_surePlace 9 = .ok (.if_icmp .ge 27, 3) := by decide +kernel
theorem dX1_surePlace_12 : decode cX1_surePlace 12 = .ok (.aload_n 0, 1) := by decide +kernel
theorem dX1_surePlace_13 : decode cX1_surePlace 13 = .ok (.iload_n 3, 1) := by decide +kernel
theorem dX1_surePlace_14 : decode cX1_surePlace 14 = .ok (.invokevirtual 63, 3) := by decide +kernel
theorem dX1_surePlace_17 : decode cX1_surePlace 17 = .ok (.iconst (-1), 1) := by decide +kernel
theorem dX1_surePlace_18 : decode cX1_surePlace 18 = .ok (.if_icmp .eq 12, 3) := by decide +kernel
theorem dX1_surePlace_21 : decode cX1_surePlace 21 = .ok (.iload_n 2, 1) := by decide +kernel
theorem dX1_surePlace_22 : decode cX1_surePlace 22 = .ok (.ifCond .ne 5, 3) := by decide +kernel
theorem dX1_surePlace_25 : decode cX1_surePlace 25 = .ok (.iload_n 3, 1) := by decide +kernel
theorem dX1_surePlace_26 : decode cX1_surePlace 26 = .ok (.ireturn, 1) := by decide +kernel
theorem dX1_surePlace_27 : decode cX1_surePlace 27 = .ok (.iinc 2 (-1), 3) := by decide +kernel
theorem dX1_surePlace_30 : decode cX1_surePlace 30 = .ok (.iinc 3 1, 3) := by decide +kernel
theorem dX1_surePlace_33 : decode cX1_surePlace 33 = .ok (.goto (-29), 3) := by decide +kernel
theorem dX1_surePlace_36 : decode cX1_surePlace 36 = .ok (.iconst (-1), 1) := by decide +kernel
theorem dX1_surePlace_37 : decode cX1_surePlace 37 = .ok (.ireturn, 1) := by decide +kernel
set_option maxRecDepth 20000 in
theorem ggX1_countSureBehind_X1_excessBehind : GoodIn wsX1_countSureBehind wsX1_excessBehind := goodIn_r _ [6, 7, 8, 9, 10, 11, 12, 13, 5, 14, 15, 16, 17] (by decide +kernel) (by decide +kernel)
set_option maxRecDepth 20000 in
theorem gX1_countSureBehind_X1_excessBehind : GoodIn wsX1_countSureBehind (wsV RX1 66 RX1 yX1_excessBehind wsX1_excessBehind) := goodIn_app (goodIn_of _ (by decide +kernel)) ggX1_countSureBehind_X1_excessBehind
theorem dX1_countSureBehind_0 : decode cX1_countSureBehind 0 = .ok (.iconst 0, 1) := by decide +kernel
theorem dX1_countSureBehind_1 : decode cX1_countSureBehind 1 = .ok (.istore 5, 2) := by decide +kernel
theorem dX1_countSureBehind_3 : decode cX1_countSureBehind 3 = .ok (.iconst 0, 1) := by decide +kernel
theorem dX1_countSureBehind_4 : decode cX1_countSureBehind 4 = .ok (.istore 6, 2) := by decide +kernel
theorem dX1_countSureBehind_6 : decode cX1_countSureBehind 6 = .ok (.iload 6, 2) := by decide +kernel
theorem dX1_countSureBehind_8 : decode cX1_countSureBehind 8 = .ok (.aload_n 0, 1) := by decide +kernel
theorem dX1_countSureBehind_9 : decode cX1_countSureBehind 9 = .ok (.getfield 21, 3) := by decide +kernel
theorem dX1_countSureBehind_12 : decode cX1_countSureBehind 12 = .ok (.if_icmp .ge 58, 3) := by decide +kernel
theorem dX1_countSureBehind_15 : decode cX1_countSureBehind 15 = .ok (.aload_n 0, 1) := by decide +kernel
theorem dX1_countSureBehind_16 : decode cX1_countSureBehind 16 = .ok (.iload 6, 2) := by decide +kernel
theorem dX1_countSureBehind_18 : decode cX1_countSureBehind 18 = .ok (.iload 6, 2) := by decide +kernel
theorem dX1_countSureBehind_20 : decode cX1_countSureBehind 20 = .ok (.iconst 1, 1) := by decide +kernel
theorem dX1_countSureBehind_21 : decode cX1_countSureBehind 21 = .ok (.iadd, 1) := by decide +kernel
theorem dX1_countSureBehind_22 : decode cX1_countSureBehind 22 = .ok (.iload_n 1, 1) := by decide +kernel
theorem dX1_countSureBehind_23 : decode cX1_countSureBehind 23 = .ok (.iload_n 2, 1) := by decide +kernel
theorem dX1_countSureBehind_24 : decode cX1_countSureBehind 24 = .ok (.iconst 1, 1) := by decide +kernel
theorem dX1_countSureBehind_25 : decode cX1_countSureBehind 25 = .ok (.iadd, 1) := by decide +kernel
theorem dX1_countSureBehind_26 : decode cX1_countSureBehind 26 = .ok (.iload_n 3, 1) := by decide +kernel
theorem dX1_countSureBehind_27 : decode cX1_countSureBehind 27 = .ok (.iload 4, 2) := by decide +kernel
theorem dX1_countSureBehind_29 : decode cX1_countSureBehind 29 = .ok (.invokevirtual 66, 3) := by decide +kernel
theorem dX1_countSureBehind_32 : decode cX1_countSureBehind 32 = .ok (.istore 7, 2) := by decide +kernel
theorem dX1_countSureBehind_34 : decode cX1_countSureBehind 34 = .ok (.aload_n 0, 1) := by decide +kernel
theorem dX1_countSureBehind_35 : decode cX1_countSureBehind 35 = .ok (.iload 6, 2) := by decide +kernel
theorem dX1_countSureBehind_37 : decode cX1_countSureBehind 37 = .ok (.iconst 1, 1) := by decide +kernel
theorem dX1_countSureBehind_38 : decode cX1_countSureBehind 38 = .ok (.iadd, 1) := by decide +kernel
theorem dX1_countSureBehind_39 : decode cX1_countSureBehind 39 = .ok (.iload 6, 2) := by decide +kernel
theorem dX1_countSureBehind_41 : decode cX1_countSureBehind 41 = .ok (.iload_n 1, 1) := by decide +kernel
theorem dX1_countSureBehind_42 : decode cX1_countSureBehind 42 = .ok (.iload_n 2, 1) := by decide +kernel
theorem dX1_countSureBehind_43 : decode cX1_countSureBehind 43 = .ok (.iconst 1, 1) := by decide +kernel
theorem dX1_countSureBehind_44 : decode cX1_countSureBehind 44 = .ok (.iadd, 1) := by decide +kernel
theorem dX1_countSureBehind_45 : decode cX1_countSureBehind 45 = .ok (.iload_n 3, 1) := by decide +kernel
theorem dX1_countSureBehind_46 : decode cX1_countSureBehind 46 = .ok (.iload 4, 2) := by decide +kernel
theorem dX1_countSureBehind_48 : decode cX1_countSureBehind 48 = .ok (.invokevirtual 66, 3) := by decide +kernel
theorem dX1_countSureBehind_51 : decode cX1_countSureBehind 51 = .ok (.ineg, 1) := by decide +kernel
theorem dX1_countSureBehind_52 : decode cX1_countSureBehind 52 = .ok (.istore 8, 2) := by decide +kernel
theorem dX1_countSureBehind_54 : decode cX1_countSureBehind 54 = .ok (.iload 7, 2) := by decide +kernel
theorem dX1_countSureBehind_56 : decode cX1_countSureBehind 56 = .ok (.iload 8, 2) := by decide +kernel
theorem dX1_countSureBehind_58 : decode cX1_countSureBehind 58 = .ok (.if_icmp .ne 6, 3) := by decide +kernel
theorem dX1_countSureBehind_61 : decode cX1_countSureBehind 61 = .ok (.iinc 5 1, 3) := by decide +kernel
theorem dX1_countSureBehind_64 : decode cX1_countSureBehind 64 = .ok (.iinc 6 1, 3) := by decide +kernel
theorem dX1_countSureBehind_67 : decode cX1_countSureBehind 67 = .ok (.goto (-61), 3) := by decide +kernel
theorem dX1_countSureBehind_70 : decode cX1_countSureBehind 70 = .ok (.iload 5, 2) := by decide +kernel
theorem dX1_countSureBehind_72 : decode cX1_countSureBehind 72 = .ok (.ireturn, 1) := by decide +kernel
set_option maxRecDepth 20000 in
theorem ggX1_excessBehind_X1_excessOf : GoodIn wsX1_excessBehind wsX1_excessOf := goodIn_r _ [9, 10, 11, 12] (by decide +kernel) (by decide +kernel)
set_option maxRecDepth 20000 in
theorem gX1_excessBehind_X1_excessOf : GoodIn wsX1_excessBehind (wsV RX1 51 RX1 yX1_excessOf wsX1_excessOf) := goodIn_app (goodIn_of _ (by decide +kernel)) ggX1_excessBehind_X1_excessOf
theorem dX1_excessBehind_0 : decode cX1_excessBehind 0 = .ok (.aload_n 0, 1) := by decide +kernel
theorem dX1_excessBehind_1 : decode cX1_excessBehind 1 = .ok (.iload_n 1, 1) := by decide +kernel
theorem dX1_excessBehind_2 : decode cX1_excessBehind 2 = .ok (.iload_n 3, 1) := by decide +kernel
theorem dX1_excessBehind_3 : decode cX1_excessBehind 3 = .ok (.invokevirtual 51, 3) := by decide +kernel
theorem dX1_excessBehind_6 : decode cX1_excessBehind 6 = .ok (.iload 6, 2) := by decide +kernel
theorem dX1_excessBehind_8 : decode cX1_excessBehind 8 = .ok (.iadd, 1) := by decide +kernel
theorem dX1_excessBehind_9 : decode cX1_excessBehind 9 = .ok (.aload_n 0, 1) := by decide +kernel
theorem dX1_excessBehind_10 : decode cX1_excessBehind 10 = .ok (.iload 4, 2) := by decide +kernel
theorem dX1_excessBehind_12 : decode cX1_excessBehind 12 = .ok (.iload_n 2, 1) := by decide +kernel
theorem dX1_excessBehind_13 : decode cX1_excessBehind 13 = .ok (.invokevirtual 51, 3) := by decide +kernel
theorem dX1_excessBehind_16 : decode cX1_excessBehind 16 = .ok (.iadd, 1) := by decide +kernel
theorem dX1_excessBehind_17 : decode cX1_excessBehind 17 = .ok (.istore 7, 2) := by decide +kernel
theorem dX1_excessBehind_19 : decode cX1_excessBehind 19 = .ok (.aload_n 0, 1) := by decide +kernel
theorem dX1_excessBehind_20 : decode cX1_excessBehind 20 = .ok (.iload_n 1, 1) := by decide +kernel
theorem dX1_excessBehind_21 : decode cX1_excessBehind 21 = .ok (.iload 4, 2) := by decide +kernel
theorem dX1_excessBehind_23 : decode cX1_excessBehind 23 = .ok (.invokevirtual 51, 3) := by decide +kernel
theorem dX1_excessBehind_26 : decode cX1_excessBehind 26 = .ok (.iload 5, 2) := by decide +kernel
theorem dX1_excessBehind_28 : decode cX1_excessBehind 28 = .ok (.isub, 1) := by decide +kernel
theorem dX1_excessBehind_29 : decode cX1_excessBehind 29 = .ok (.aload_n 0, 1) := by decide +kernel
theorem dX1_excessBehind_30 : decode cX1_excessBehind 30 = .ok (.iload_n 3, 1) := by decide +kernel
theorem dX1_excessBehind_31 : decode cX1_excessBehind 31 = .ok (.iload_n 2, 1) := by decide +kernel
theorem dX1_excessBehind_32 : decode cX1_excessBehind 32 = .ok (.invokevirtual 51, 3) := by decide +kernel
theorem dX1_excessBehind_35 : decode cX1_excessBehind 35 = .ok (.iadd, 1) := by decide +kernel
theorem dX1_excessBehind_36 : decode cX1_excessBehind 36 = .ok (.istore 8, 2) := by decide +kernel
theorem dX1_excessBehind_38 : decode cX1_excessBehind 38 = .ok (.aload_n 0, 1) := by decide +kernel
theorem dX1_excessBehind_39 : decode cX1_excessBehind 39 = .ok (.iload_n 1, 1) := by decide +kernel
theorem dX1_excessBehind_40 : decode cX1_excessBehind 40 = .ok (.iload_n 2, 1) := by decide +kernel
theorem dX1_excessBehind_41 : decode cX1_excessBehind 41 = .ok (.invokevirtual 51, 3) := by decide +kernel
theorem dX1_excessBehind_44 : decode cX1_excessBehind 44 = .ok (.iload 7, 2) := by decide +kernel
theorem dX1_excessBehind_46 : decode cX1_excessBehind 46 = .ok (.iload 8, 2) := by decide +kernel
theorem dX1_excessBehind_48 : decode cX1_excessBehind 48 = .ok (.invokestatic 70, 3) := by decide +kernel
theorem dX1_excessBehind_51 : decode cX1_excessBehind 51 = .ok (.invokestatic 70, 3) := by decide +kernel
theorem dX1_excessBehind_54 : decode cX1_excessBehind 54 = .ok (.ireturn, 1) := by decide +kernel
theorem dX2_init_0 : decode cX2_init 0 = .ok (.aload_n 0, 1) := by decide +kernel
theorem dX2_init_1 : decode cX2_init 1 = .ok (.invokespecial 3, 3) := by decide +kernel
theorem dX2_init_4 : decode cX2_init 4 = .ok (.aload_n 0, 1) := by decide +kernel
theorem dX2_init_5 : decode cX2_init 5 = .ok (.bipush 14, 2) := by decide +kernel
theorem dX2_init_7 : decode cX2_init 7 = .ok (.anewarray 9, 3) := by decide +kernel
theorem dX2_init_10 : decode cX2_init 10 = .ok (.putfield 11, 3) := by decide +kernel
theorem dX2_init_13 : decode cX2_init 13 = .ok (.return_, 1) := by decide +kernel
set_option maxRecDepth 20000 in
theorem ggX2_remember_X0_init : GoodIn wsX2_remember wsX0_init := goodIn_r _ [12, 13, 14, 15, 16, 17, 34, 35, 36, 37, 38, 39, 40, 41, 42, 43] (by decide +kernel) (by decide +kernel)
set_option maxRecDepth 20000 in
theorem gX2_remember_X0_init_n24 : GoodIn wsX2_remember (wsX0_init) := ggX2_remember_X0_init
set_option maxRecDepth 20000 in
theorem ggX2_remember_X0_takeFrom : GoodIn wsX2_remember wsX0_takeFrom := goodIn_r _ [21, 22, 23, 24, 25, 26, 27, 28, 29, 30, 17, 34, 35, 36, 37, 38, 39, 40, 41, 42, 43] (by decide +kernel) (by decide +kernel)
set_option maxRecDepth 20000 in
theorem gX2_remember_X0_takeFrom : GoodIn wsX2_remember (wsV RX2 25 RX0 yX0_takeFrom wsX0_takeFrom) := goodIn_app (goodIn_of _ (by decide +kernel)) ggX2_remember_X0_takeFrom
theorem dX2_remember_0 : decode cX2_remember 0 = .ok (.aload_n 0, 1) := by decide +kernel
theorem dX2_remember_1 : decode cX2_remember 1 = .ok (.getfield 21, 3) := by decide +kernel
theorem dX2_remember_4 : decode cX2_remember 4 = .ok (.ifCond .lt 15, 3) := by decide +kernel
theorem dX2_remember_7 : decode cX2_remember 7 = .ok (.aload_n 0, 1) := by decide +kernel
theorem dX2_remember_8 : decode cX2_remember 8 = .ok (.getfield 21, 3) := by decide +kernel
theorem dX2_remember_11 : decode cX2_remember 11 = .ok (.aload_n 0, 1) := by decide +kernel
theorem dX2_remember_12 : decode cX2_remember 12 = .ok (.getfield 11, 3) := by decide +kernel
theorem dX2_remember_15 : decode cX2_remember 15 = .ok (.arraylength, 1) := by decide +kernel
theorem dX2_remember_16 : decode cX2_remember 16 = .ok (.if_icmp .lt 4, 3) := by decide +kernel
theorem dX2_remember_19 : decode cX2_remember 19 = .ok (.return_, 1) := by decide +kernel
theorem dX2_remember_20 : decode cX2_remember 20 = .ok (.aload_n 0, 1) := by decide +kernel
theorem dX2_remember_21 : decode cX2_remember 21 = .ok (.getfield 11, 3) := by decide +kernel
theorem dX2_remember_24 : decode cX2_remember 24 = .ok (.aload_n 0, 1) := by decide +kernel
theorem dX2_remember_25 : decode cX2_remember 25 = .ok (.getfield 21, 3) := by decide +kernel
theorem dX2_remember_28 : decode cX2_remember 28 = .ok (.aaload, 1) := by decide +kernel
theorem dX2_remember_29 : decode cX2_remember 29 = .ok (.astore_n 2, 1) := by decide +kernel
theorem dX2_remember_30 : decode cX2_remember 30 = .ok (.aload_n 2, 1) := by decide +kernel
theorem dX2_remember_31 : decode cX2_remember 31 = .ok (.ifnonnull 21, 3) := by decide +kernel
theorem dX2_remember_34 : decode cX2_remember 34 = .ok (.new 9, 3) := by decide +kernel
theorem dX2_remember_37 : decode cX2_remember 37 = .ok (.dup, 1) := by decide +kernel
theorem dX2_remember_38 : decode cX2_remember 38 = .ok (.invokespecial 24, 3) := by decide +kernel
theorem dX2_remember_41 : decode cX2_remember 41 = .ok (.astore_n 2, 1) := by decide +kernel
theorem dX2_remember_42 : decode cX2_remember 42 = .ok (.aload_n 0, 1) := by decide +kernel
theorem dX2_remember_43 : decode cX2_remember 43 = .ok (.getfield 11, 3) := by decide +kernel
theorem dX2_remember_46 : decode cX2_remember 46 = .ok (.aload_n 0, 1) := by decide +kernel
theorem dX2_remember_47 : decode cX2_remember 47 = .ok (.getfield 21, 3) := by decide +kernel
theorem dX2_remember_50 : decode cX2_remember 50 = .ok (.aload_n 2, 1) := by decide +kernel
theorem dX2_remember_51 : decode cX2_remember 51 = .ok (.aastore, 1) := by decide +kernel
theorem dX2_remember_52 : decode cX2_remember 52 = .ok (.aload_n 2, 1) := by decide +kernel
theorem dX2_remember_53 : decode cX2_remember 53 = .ok (.aload_n 1, 1) := by decide +kernel
theorem dX2_remember_54 : decode cX2_remember 54 = .ok (.invokevirtual 25, 3) := by decide +kernel
theorem dX2_remember_57 : decode cX2_remember 57 = .ok (.aload_n 0, 1) := by decide +kernel
theorem dX2_remember_58 : decode cX2_remember 58 = .ok (.aload_n 0, 1) := by decide +kernel
theorem dX2_remember_59 : decode cX2_remember 59 = .ok (.getfield 21, 3) := by decide +kernel
theorem dX2_remember_62 : decode cX2_remember 62 = .ok (.iconst 1, 1) := by decide +kernel
theorem dX2_remember_63 : decode cX2_remember 63 = .ok (.iadd, 1) := by decide +kernel
theorem dX2_remember_64 : decode cX2_remember 64 = .ok (.aload_n 0, 1) := by decide +kernel
theorem dX2_remember_65 : decode cX2_remember 65 = .ok (.getfield 11, 3) := by decide +kernel
theorem dX2_remember_68 : decode cX2_remember 68 = .ok (.arraylength, 1) := by decide +kernel
theorem dX2_remember_69 : decode cX2_remember 69 = .ok (.if_icmp .ge 12, 3) := by decide +kernel
theorem dX2_remember_72 : decode cX2_remember 72 = .ok (.aload_n 0, 1) := by decide +kernel
theorem dX2_remember_73 : decode cX2_remember 73 = .ok (.getfield 21, 3) := by decide +kernel
theorem dX2_remember_76 : decode cX2_remember 76 = .ok (.iconst 1, 1) := by decide +kernel
theorem dX2_remember_77 : decode cX2_remember 77 = .ok (.iadd, 1) := by decide +kernel
theorem dX2_remember_78 : decode cX2_remember 78 = .ok (.goto 4, 3) := by decide +kernel
theorem dX2_remember_81 : decode cX2_remember 81 = .ok (.iconst 0, 1) := by decide +kernel
theorem dX2_remember_82 : decode cX2_remember 82 = .ok (.putfield 21, 3) := by decide +kernel
theorem dX2_remember_85 : decode cX2_remember 85 = .ok (.aload_n 0, 1) := by decide +kernel
theorem dX2_remember_86 : decode cX2_remember 86 = .ok (.aload_n 0, 1) := by decide +kernel
theorem dX2_remember_87 : decode cX2_remember 87 = .ok (.getfield 17, 3) := by decide +kernel
theorem dX2_remember_90 : decode cX2_remember 90 = .ok (.iconst 1, 1) := by decide +kernel
theorem dX2_remember_91 : decode cX2_remember 91 = .ok (.iadd, 1) := by decide +kernel
theorem dX2_remember_92 : decode cX2_remember 92 = .ok (.aload_n 0, 1) := by decide +kernel
theorem dX2_remember_93 : decode cX2_remember 93 = .ok (.getfield 11, 3) := by decide +kernel
theorem dX2_remember_96 : decode cX2_remember 96 = .ok (.arraylength, 1) := by decide +kernel
theorem dX2_remember_97 : decode cX2_remember 97 = .ok (.invokestatic 29, 3) := by decide +kernel
theorem dX2_remember_100 : decode cX2_remember 100 = .ok (.putfield 17, 3) := by decide +kernel
theorem dX2_remember_103 : decode cX2_remember 103 = .ok (.return_, 1) := by decide +kernel
