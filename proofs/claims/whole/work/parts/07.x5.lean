theorem dX5_init_0 : decode cX5_init 0 = .ok (.aload_n 0, 1) := by decide +kernel
theorem dX5_init_1 : decode cX5_init 1 = .ok (.invokespecial 1, 3) := by decide +kernel
theorem dX5_init_4 : decode cX5_init 4 = .ok (.aload_n 0, 1) := by decide +kernel
theorem dX5_init_5 : decode cX5_init 5 = .ok (.bipush 96, 2) := by decide +kernel
theorem dX5_init_7 : decode cX5_init 7 = .ok (.newarray .int, 2) := by decide +kernel
theorem dX5_init_9 : decode cX5_init 9 = .ok (.putfield 7, 3) := by decide +kernel
theorem dX5_init_12 : decode cX5_init 12 = .ok (.aload_n 0, 1) := by decide +kernel
theorem dX5_init_13 : decode cX5_init 13 = .ok (.bipush 96, 2) := by decide +kernel
theorem dX5_init_15 : decode cX5_init 15 = .ok (.newarray .int, 2) := by decide +kernel
theorem dX5_init_17 : decode cX5_init 17 = .ok (.putfield 13, 3) := by decide +kernel
theorem dX5_init_20 : decode cX5_init 20 = .ok (.aload_n 0, 1) := by decide +kernel
theorem dX5_init_21 : decode cX5_init 21 = .ok (.sipush 1344, 3) := by decide +kernel
theorem dX5_init_24 : decode cX5_init 24 = .ok (.newarray .int, 2) := by decide +kernel
theorem dX5_init_26 : decode cX5_init 26 = .ok (.putfield 16, 3) := by decide +kernel
theorem dX5_init_29 : decode cX5_init 29 = .ok (.aload_n 0, 1) := by decide +kernel
theorem dX5_init_30 : decode cX5_init 30 = .ok (.sipush 192, 3) := by decide +kernel
theorem dX5_init_33 : decode cX5_init 33 = .ok (.newarray .int, 2) := by decide +kernel
theorem dX5_init_35 : decode cX5_init 35 = .ok (.putfield 19, 3) := by decide +kernel
theorem dX5_init_38 : decode cX5_init 38 = .ok (.aload_n 0, 1) := by decide +kernel
theorem dX5_init_39 : decode cX5_init 39 = .ok (.iconst 2, 1) := by decide +kernel
theorem dX5_init_40 : decode cX5_init 40 = .ok (.newarray .int, 2) := by decide +kernel
theorem dX5_init_42 : decode cX5_init 42 = .ok (.putfield 22, 3) := by decide +kernel
theorem dX5_init_45 : decode cX5_init 45 = .ok (.aload_n 0, 1) := by decide +kernel
theorem dX5_init_46 : decode cX5_init 46 = .ok (.bipush 100, 2) := by decide +kernel
theorem dX5_init_48 : decode cX5_init 48 = .ok (.newarray .int, 2) := by decide +kernel
theorem dX5_init_50 : decode cX5_init 50 = .ok (.putfield 25, 3) := by decide +kernel
theorem dX5_init_53 : decode cX5_init 53 = .ok (.aload_n 0, 1) := by decide +kernel
theorem dX5_init_54 : decode cX5_init 54 = .ok (.sipush 1681, 3) := by decide +kernel
theorem dX5_init_57 : decode cX5_init 57 = .ok (.newarray .int, 2) := by decide +kernel
theorem dX5_init_59 : decode cX5_init 59 = .ok (.putfield 28, 3) := by decide +kernel
theorem dX5_init_62 : decode cX5_init 62 = .ok (.aload_n 0, 1) := by decide +kernel
theorem dX5_init_63 : decode cX5_init 63 = .ok (.sipush 1681, 3) := by decide +kernel
theorem dX5_init_66 : decode cX5_init 66 = .ok (.newarray .int, 2) := by decide +kernel
theorem dX5_init_68 : decode cX5_init 68 = .ok (.putfield 31, 3) := by decide +kernel
theorem dX5_init_71 : decode cX5_init 71 = .ok (.aload_n 0, 1) := by decide +kernel
theorem dX5_init_72 : decode cX5_init 72 = .ok (.bipush 16, 2) := by decide +kernel
theorem dX5_init_74 : decode cX5_init 74 = .ok (.invokevirtual 34, 3) := by decide +kernel
theorem dX5_init_77 : decode cX5_init 77 = .ok (.return_, 1) := by decide +kernel
theorem dX5_thrown_0 : decode cX5_thrown 0 = .ok (.aload_n 0, 1) := by decide +kernel
theorem dX5_thrown_1 : decode cX5_thrown 1 = .ok (.getfield 38, 3) := by decide +kernel
theorem dX5_thrown_4 : decode cX5_thrown 4 = .ok (.ireturn, 1) := by decide +kernel
theorem dX5_copy_0 : decode cX5_copy 0 = .ok (.iconst 0, 1) := by decide +kernel
theorem dX5_copy_1 : decode cX5_copy 1 = .ok (.istore 4, 2) := by decide +kernel
theorem dX5_copy_3 : decode cX5_copy 3 = .ok (.iload 4, 2) := by decide +kernel
theorem dX5_copy_5 : decode cX5_copy 5 = .ok (.bipush 96, 2) := by decide +kernel
theorem dX5_copy_7 : decode cX5_copy 7 = .ok (.if_icmp .ge 21, 3) := by decide +kernel
theorem dX5_copy_10 : decode cX5_copy 10 = .ok (.aload_n 2, 1) := by decide +kernel
theorem dX5_copy_11 : decode cX5_copy 11 = .ok (.iload_n 3, 1) := by decide +kernel
theorem dX5_copy_12 : decode cX5_copy 12 = .ok (.iload 4, 2) := by decide +kernel
theorem dX5_copy_14 : decode cX5_copy 14 = .ok (.iadd, 1) := by decide +kernel
theorem dX5_copy_15 : decode cX5_copy 15 = .ok (.aload_n 0, 1) := by decide +kernel
theorem dX5_copy_16 : decode cX5_copy 16 = .ok (.iload_n 1, 1) := by decide +kernel
theorem dX5_copy_17 : decode cX5_copy 17 = .ok (.iload 4, 2) := by decide +kernel
theorem dX5_copy_19 : decode cX5_copy 19 = .ok (.iadd, 1) := by decide +kernel
theorem dX5_copy_20 : decode cX5_copy 20 = .ok (.iaload, 1) := by decide +kernel
theorem dX5_copy_21 : decode cX5_copy 21 = .ok (.iastore, 1) := by decide +kernel
theorem dX5_copy_22 : decode cX5_copy 22 = .ok (.iinc 4 1, 3) := by decide +kernel
theorem dX5_copy_25 : decode cX5_copy 25 = .ok (.goto (-22), 3) := by decide +kernel
theorem dX5_copy_28 : decode cX5_copy 28 = .ok (.return_, 1) := by decide +kernel
theorem dX5_within_0 : decode cX5_within 0 = .ok (.iload_n 0, 1) := by decide +kernel
theorem dX5_within_1 : decode cX5_within 1 = .ok (.iload_n 1, 1) := by decide +kernel
theorem dX5_within_2 : decode cX5_within 2 = .ok (.if_icmp .lt 12, 3) := by decide +kernel
theorem dX5_within_5 : decode cX5_within 5 = .ok (.iload_n 0, 1) := by decide +kernel
theorem dX5_within_6 : decode cX5_within 6 = .ok (.iload_n 2, 1) := by decide +kernel
theorem dX5_within_7 : decode cX5_within 7 = .ok (.if_icmp .gt 7, 3) := by decide +kernel
theorem dX5_within_10 : decode cX5_within 10 = .ok (.iconst 1, 1) := by decide +kernel
theorem dX5_within_11 : decode cX5_within 11 = .ok (.goto 4, 3) := by decide +kernel
theorem dX5_within_14 : decode cX5_within 14 = .ok (.iconst 0, 1) := by decide +kernel
theorem dX5_within_15 : decode cX5_within 15 = .ok (.ireturn, 1) := by decide +kernel
theorem dX5_renew_0 : decode cX5_renew 0 = .ok (.iconst 0, 1) := by decide +kernel
theorem dX5_renew_1 : decode cX5_renew 1 = .ok (.istore_n 2, 1) := by decide +kernel
theorem dX5_renew_2 : decode cX5_renew 2 = .ok (.iload_n 2, 1) := by decide +kernel
theorem dX5_renew_3 : decode cX5_renew 3 = .ok (.bipush 96, 2) := by decide +kernel
theorem dX5_renew_5 : decode cX5_renew 5 = .ok (.if_icmp .ge 16, 3) := by decide +kernel
theorem dX5_renew_8 : decode cX5_renew 8 = .ok (.aload_n 0, 1) := by decide +kernel
theorem dX5_renew_9 : decode cX5_renew 9 = .ok (.getfield 7, 3) := by decide +kernel
theorem dX5_renew_12 : decode cX5_renew 12 = .ok (.iload_n 2, 1) := by decide +kernel
theorem dX5_renew_13 : decode cX5_renew 13 = .ok (.iconst 0, 1) := by decide +kernel
theorem dX5_renew_14 : decode cX5_renew 14 = .ok (.iastore, 1) := by decide +kernel
theorem dX5_renew_15 : decode cX5_renew 15 = .ok (.iinc 2 1, 3) := by decide +kernel
theorem dX5_renew_18 : decode cX5_renew 18 = .ok (.goto (-16), 3) := by decide +kernel
theorem dX5_renew_21 : decode cX5_renew 21 = .ok (.aload_n 0, 1) := by decide +kernel
theorem dX5_renew_22 : decode cX5_renew 22 = .ok (.getfield 7, 3) := by decide +kernel
theorem dX5_renew_25 : decode cX5_renew 25 = .ok (.iconst 0, 1) := by decide +kernel
theorem dX5_renew_26 : decode cX5_renew 26 = .ok (.iload_n 1, 1) := by decide +kernel
theorem dX5_renew_27 : decode cX5_renew 27 = .ok (.iastore, 1) := by decide +kernel
theorem dX5_renew_28 : decode cX5_renew 28 = .ok (.aload_n 0, 1) := by decide +kernel
theorem dX5_renew_29 : decode cX5_renew 29 = .ok (.getfield 7, 3) := by decide +kernel
theorem dX5_renew_32 : decode cX5_renew 32 = .ok (.iconst 1, 1) := by decide +kernel
theorem dX5_renew_33 : decode cX5_renew 33 = .ok (.iconst 3, 1) := by decide +kernel
theorem dX5_renew_34 : decode cX5_renew 34 = .ok (.iastore, 1) := by decide +kernel
theorem dX5_renew_35 : decode cX5_renew 35 = .ok (.aload_n 0, 1) := by decide +kernel
theorem dX5_renew_36 : decode cX5_renew 36 = .ok (.getfield 7, 3) := by decide +kernel
theorem dX5_renew_39 : decode cX5_renew 39 = .ok (.iconst 2, 1) := by decide +kernel
theorem dX5_renew_40 : decode cX5_renew 40 = .ok (.iconst 2, 1) := by decide +kernel
theorem dX5_renew_41 : decode cX5_renew 41 = .ok (.iastore, 1) := by decide +kernel
theorem dX5_renew_42 : decode cX5_renew 42 = .ok (.aload_n 0, 1) := by decide +kernel
theorem dX5_renew_43 : decode cX5_renew 43 = .ok (.getfield 7, 3) := by decide +kernel
theorem dX5_renew_46 : decode cX5_renew 46 = .ok (.iconst 3, 1) := by decide +kernel
theorem dX5_renew_47 : decode cX5_renew 47 = .ok (.iconst 1, 1) := by decide +kernel
theorem dX5_renew_48 : decode cX5_renew 48 = .ok (.iastore, 1) := by decide +kernel
theorem dX5_renew_49 : decode cX5_renew 49 = .ok (.return_, 1) := by decide +kernel
set_option maxRecDepth 20000 in
theorem ggX5_isPlace_X5_within : GoodIn wsX5_isPlace wsX5_within := goodIn_r _ [5] (by decide +kernel) (by decide +kernel)
set_option maxRecDepth 20000 in
theorem gX5_isPlace_X5_within : GoodIn wsX5_isPlace (va_wsS RX5 42 yX5_within wsX5_within) := goodIn_app (goodIn_of _ (by decide +kernel)) ggX5_isPlace_X5_within
theorem dX5_isPlace_0 : decode cX5_isPlace 0 = .ok (.iload_n 1, 1) := by decide +kernel
theorem dX5_isPlace_1 : decode cX5_isPlace 1 = .ok (.iconst 0, 1) := by decide +kernel
theorem dX5_isPlace_2 : decode cX5_isPlace 2 = .ok (.aload_n 0, 1) := by decide +kernel
theorem dX5_isPlace_3 : decode cX5_isPlace 3 = .ok (.getfield 7, 3) := by decide +kernel
theorem dX5_isPlace_6 : decode cX5_isPlace 6 = .ok (.iconst 0, 1) := by decide +kernel
theorem dX5_isPlace_7 : decode cX5_isPlace 7 = .ok (.iaload, 1) := by decide +kernel
theorem dX5_isPlace_8 : decode cX5_isPlace 8 = .ok (.iconst 1, 1) := by decide +kernel
theorem dX5_isPlace_9 : decode cX5_isPlace 9 = .ok (.isub, 1) := by decide +kernel
theorem dX5_isPlace_10 : decode cX5_isPlace 10 = .ok (.invokestatic 42, 3) := by decide +kernel
theorem dX5_isPlace_13 : decode cX5_isPlace 13 = .ok (.ireturn, 1) := by decide +kernel
theorem dX5_answerPart_0 : decode cX5_answerPart 0 = .ok (.aload_n 0, 1) := by decide +kernel
theorem dX5_answerPart_1 : decode cX5_answerPart 1 = .ok (.getfield 7, 3) := by decide +kernel
theorem dX5_answerPart_4 : decode cX5_answerPart 4 = .ok (.bipush 48, 2) := by decide +kernel
theorem dX5_answerPart_6 : decode cX5_answerPart 6 = .ok (.iconst 4, 1) := by decide +kernel
theorem dX5_answerPart_7 : decode cX5_answerPart 7 = .ok (.iload_n 1, 1) := by decide +kernel
theorem dX5_answerPart_8 : decode cX5_answerPart 8 = .ok (.imul, 1) := by decide +kernel
theorem dX5_answerPart_9 : decode cX5_answerPart 9 = .ok (.iadd, 1) := by decide +kernel
theorem dX5_answerPart_10 : decode cX5_answerPart 10 = .ok (.iload_n 2, 1) := by decide +kernel
theorem dX5_answerPart_11 : decode cX5_answerPart 11 = .ok (.iadd, 1) := by decide +kernel
theorem dX5_answerPart_12 : decode cX5_answerPart 12 = .ok (.iaload, 1) := by decide +kernel
theorem dX5_answerPart_13 : decode cX5_answerPart 13 = .ok (.ireturn, 1) := by decide +kernel
theorem dX5_keysIn_0 : decode cX5_keysIn 0 = .ok (.iconst 0, 1) := by decide +kernel
theorem dX5_keysIn_1 : decode cX5_keysIn 1 = .ok (.istore_n 3, 1) := by decide +kernel
theorem dX5_keysIn_2 : decode cX5_keysIn 2 = .ok (.iload_n 1, 1) := by decide +kernel
theorem dX5_keysIn_3 : decode cX5_keysIn 3 = .ok (.istore 4, 2) := by decide +kernel
theorem dX5_keysIn_5 : decode cX5_keysIn 5 = .ok (.iload 4, 2) := by decide +kernel
theorem dX5_keysIn_7 : decode cX5_keysIn 7 = .ok (.iload_n 2, 1) := by decide +kernel
theorem dX5_keysIn_8 : decode cX5_keysIn 8 = .ok (.if_icmp .gt 22, 3) := by decide +kernel
theorem dX5_keysIn_11 : decode cX5_keysIn 11 = .ok (.iload_n 3, 1) := by decide +kernel
theorem dX5_keysIn_12 : decode cX5_keysIn 12 = .ok (.aload_n 0, 1) := by decide +kernel
theorem dX5_keysIn_13 : decode cX5_keysIn 13 = .ok (.getfield 7, 3) := by decide +kernel
theorem dX5_keysIn_16 : decode cX5_keysIn 16 = .ok (.bipush 8, 2) := by decide +kernel
theorem dX5_keysIn_18 : decode cX5_keysIn 18 = .ok (.iload 4, 2) := by decide +kernel
theorem dX5_keysIn_20 : decode cX5_keysIn 20 = .ok (.iadd, 1) := by decide +kernel
theorem dX5_keysIn_21 : decode cX5_keysIn 21 = .ok (.iaload, 1) := by decide +kernel
theorem dX5_keysIn_22 : decode cX5_keysIn 22 = .ok (.iadd, 1) := by decide +kernel
theorem dX5_keysIn_23 : decode cX5_keysIn 23 = .ok (.istore_n 3, 1) := by decide +kernel
theorem dX5_keysIn_24 : decode cX5_keysIn 24 = .ok (.iinc 4 1, 3) := by decide +kernel
theorem dX5_keysIn_27 : decode cX5_keysIn 27 = .ok (.goto (-22), 3) := by decide +kernel
theorem dX5_keysIn_30 : decode cX5_keysIn 30 = .ok (.iload_n 3, 1) := by decide +kernel
theorem dX5_keysIn_31 : decode cX5_keysIn 31 = .ok (.ireturn, 1) := by decide +kernel
theorem dX5_isWide_0 : decode cX5_isWide 0 = .ok (.iload_n 2, 1) := by decide +kernel
theorem dX5_isWide_1 : decode cX5_isWide 1 = .ok (.iload_n 1, 1) := by decide +kernel
theorem dX5_isWide_2 : decode cX5_isWide 2 = .ok (.isub, 1) := by decide +kernel
theorem dX5_isWide_3 : decode cX5_isWide 3 = .ok (.iconst 1, 1) := by decide +kernel
theorem dX5_isWide_4 : decode cX5_isWide 4 = .ok (.iadd, 1) := by decide +kernel
theorem dX5_isWide_5 : decode cX5_isWide 5 = .ok (.aload_n 0, 1) := by decide +kernel
theorem dX5_isWide_6 : decode cX5_isWide 6 = .ok (.getfield 7, 3) := by decide +kernel
theorem dX5_isWide_9 : decode cX5_isWide 9 = .ok (.iconst 1, 1) := by decide +kernel
theorem dX5_isWide_10 : decode cX5_isWide 10 = .ok (.iaload, 1) := by decide +kernel
theorem dX5_isWide_11 : decode cX5_isWide 11 = .ok (.if_icmp .lt 7, 3) := by decide +kernel
theorem dX5_isWide_14 : decode cX5_isWide 14 = .ok (.iconst 1, 1) := by decide +kernel
theorem dX5_isWide_15 : decode cX5_isWide 15 = .ok (.goto 4, 3) := by decide +kernel
theorem dX5_isWide_18 : decode cX5_isWide 18 = .ok (.iconst 0, 1) := by decide +kernel
theorem dX5_isWide_19 : decode cX5_isWide 19 = .ok (.ireturn, 1) := by decide +kernel
set_option maxRecDepth 20000 in
theorem ggX5_answerAbout_X5_answerPart : GoodIn wsX5_answerAbout wsX5_answerPart := goodIn_r _ [6, 1, 7, 8, 9, 10, 11, 12, 13, 14, 15, 16, 17] (by decide +kernel) (by decide +kernel)
set_option maxRecDepth 20000 in
theorem gX5_answerAbout_X5_answerPart : GoodIn wsX5_answerAbout (wsV RX5 46 RX5 yX5_answerPart wsX5_answerPart) := goodIn_app (goodIn_of _ (by decide +kernel)) ggX5_answerAbout_X5_answerPart
theorem dX5_answerAbout_0 : decode cX5_answerAbout 0 = .ok (.iconst (-1), 1) := by decide +kernel
theorem dX5_answerAbout_1 : decode cX5_answerAbout 1 = .ok (.istore_n 3, 1) := by decide +kernel
theorem dX5_answerAbout_2 : decode cX5_answerAbout 2 = .ok (.iconst 0, 1) := by decide +kernel
theorem dX5_answerAbout_3 : decode cX5_answerAbout 3 = .ok (.istore 4, 2) := by decide +kernel
theorem dX5_answerAbout_5 : decode cX5_answerAbout 5 = .ok (.iload 4, 2) := by decide +kernel
theorem dX5_answerAbout_7 : decode cX5_answerAbout 7 = .ok (.aload_n 0, 1) := by decide +kernel
theorem dX5_answerAbout_8 : decode cX5_answerAbout 8 = .ok (.getfield 7, 3) := by decide +kernel
theorem dX5_answerAbout_11 : decode cX5_answerAbout 11 = .ok (.iconst 4, 1) := by decide +kernel
theorem dX5_answerAbout_12 : decode cX5_answerAbout 12 = .ok (.iaload, 1) := by decide +kernel
theorem dX5_answerAbout_13 : decode cX5_answerAbout 13 = .ok (.if_icmp .ge 38, 3) := by decide +kernel
theorem dX5_answerAbout_16 : decode cX5_answerAbout 16 = .ok (.aload_n 0, 1) := by decide +kernel
theorem dX5_answerAbout_17 : decode cX5_answerAbout 17 = .ok (.iload 4, 2) := by decide +kernel
theorem dX5_answerAbout_19 : decode cX5_answerAbout 19 = .ok (.iconst 0, 1) := by decide +kernel
theorem dX5_answerAbout_20 : decode cX5_answerAbout 20 = .ok (.invokevirtual 46, 3) := by decide +kernel
theorem dX5_answerAbout_23 : decode cX5_answerAbout 23 = .ok (.iload_n 1, 1) := by decide +kernel
theorem dX5_answerAbout_24 : decode cX5_answerAbout 24 = .ok (.if_icmp .ne 19, 3) := by decide +kernel
theorem dX5_answerAbout_27 : decode cX5_answerAbout 27 = .ok (.aload_n 0, 1) := by decide +kernel
theorem dX5_answerAbout_28 : decode cX5_answerAbout 28 = .ok (.iload 4, 2) := by decide +kernel
theorem dX5_answerAbout_30 : decode cX5_answerAbout 30 = .ok (.iconst 1, 1) := by decide +kernel
theorem dX5_answerAbout_31 : decode cX5_answerAbout 31 = .ok (.invokevirtual 46, 3) := by decide +kernel
theorem dX5_answerAbout_34 : decode cX5_answerAbout 34 = .ok (.iload_n 2, 1) := by decide +kernel
theorem dX5_answerAbout_35 : decode cX5_answerAbout 35 = .ok (.if_icmp .ne 8, 3) := by decide +kernel
theorem dX5_answerAbout_38 : decode cX5_answerAbout 38 = .ok (.iload 4, 2) := by decide +kernel
theorem dX5_answerAbout_40 : decode cX5_answerAbout 40 = .ok (.goto 4, 3) := by decide +kernel
theorem dX5_answerAbout_43 : decode cX5_answerAbout 43 = .ok (.iload_n 3, 1) := by decide +kernel
theorem dX5_answerAbout_44 : decode cX5_answerAbout 44 = .ok (.istore_n 3, 1) := by decide +kernel
theorem dX5_answerAbout_45 : decode cX5_answerAbout 45 = .ok (.iinc 4 1, 3) := by decide +kernel
theorem dX5_answerAbout_48 : decode cX5_answerAbout 48 = .ok (.goto (-43), 3) := by decide +kernel
theorem dX5_answerAbout_51 : decode cX5_answerAbout 51 = .ok (.iload_n 3, 1) := by decide +kernel
theorem dX5_answerAbout_52 : decode cX5_answerAbout 52 = .ok (.ireturn, 1) := by decide +kernel
set_option maxRecDepth 20000 in
theorem ggX5_costOf_X5_answerAbout : GoodIn wsX5_costOf wsX5_answerAbout := goodIn_r _ [6, 1, 7, 8, 9, 5, 10, 11, 12, 13, 14, 15, 16, 17, 18, 19, 20, 21] (by decide +kernel) (by decide +kernel)
set_option maxRecDepth 20000 in
theorem gX5_costOf_X5_answerAbout : GoodIn wsX5_costOf (wsV RX5 50 RX5 yX5_answerAbout wsX5_answerAbout) := goodIn_app (goodIn_of _ (by decide +kernel)) ggX5_costOf_X5_answerAbout
theorem dX5_costOf_0 : decode cX5_costOf 0 = .ok (.aload_n 0, 1) := by decide +kernel
theorem dX5_costOf_1 : decode cX5_costOf 1 = .ok (.iload_n 1, 1) := by decide +kernel
theorem dX5_costOf_2 : decode cX5_costOf 2 = .ok (.iload_n 2, 1) := by decide +kernel
theorem dX5_costOf_3 : decode cX5_costOf 3 = .ok (.invokevirtual 50, 3) := by decide +kernel
theorem dX5_costOf_6 : decode cX5_costOf 6 = .ok (.iconst (-1), 1) := by decide +kernel
theorem dX5_costOf_7 : decode cX5_costOf 7 = .ok (.if_icmp .eq 7, 3) := by decide +kernel
theorem dX5_costOf_10 : decode cX5_costOf 10 = .ok (.iconst 0, 1) := by decide +kernel
theorem dX5_costOf_11 : decode cX5_costOf 11 = .ok (.goto 17, 3) := by decide +kernel
theorem dX5_costOf_14 : decode cX5_costOf 14 = .ok (.aload_n 0, 1) := by decide +kernel
theorem dX5_costOf_15 : decode cX5_costOf 15 = .ok (.getfield 7, 3) := by decide +kernel
theorem dX5_costOf_18 : decode cX5_costOf 18 = .ok (.iconst 3, 1) := by decide +kernel
theorem dX5_costOf_19 : decode cX5_costOf 19 = .ok (.iaload, 1) := by decide +kernel
theorem dX5_costOf_20 : decode cX5_costOf 20 = .ok (.iload_n 2, 1) := by decide +kernel
theorem dX5_costOf_21 : decode cX5_costOf 21 = .ok (.iload_n 1, 1) := by decide +kernel
theorem dX5_costOf_22 : decode cX5_costOf 22 = .ok (.isub, 1) := by decide +kernel
theorem dX5_costOf_23 : decode cX5_costOf 23 = .ok (.iconst 1, 1) := by decide +kernel
theorem dX5_costOf_24 : decode cX5_costOf 24 = .ok (.iadd, 1) := by decide +kernel
theorem dX5_costOf_25 : decode cX5_costOf 25 = .ok (.iconst 4, 1) := by decide +kernel
theorem dX5_costOf_26 : decode cX5_costOf 26 = .ok (.idiv, 1) := by decide +kernel
theorem dX5_costOf_27 : decode cX5_costOf 27 = .ok (.iadd, 1) := by decide +kernel
theorem dX5_costOf_28 : decode cX5_costOf 28 = .ok (.ireturn, 1) := by decide +kernel
theorem dX5_bind_0 : decode cX5_bind 0 = .ok (.iconst 0, 1) := by decide +kernel
theorem dX5_bind_1 : decode cX5_bind 1 = .ok (.istore 4, 2) := by decide +kernel
theorem dX5_bind_3 : decode cX5_bind 3 = .ok (.iload 4, 2) := by decide +kernel
theorem dX5_bind_5 : decode cX5_bind 5 = .ok (.bipush 41, 2) := by decide +kernel
theorem dX5_bind_7 : decode cX5_bind 7 = .ok (.if_icmp .ge 88, 3) := by decide +kernel
theorem dX5_bind_10 : decode cX5_bind 10 = .ok (.iconst 0, 1) := by decide +kernel
theorem dX5_bind_11 : decode cX5_bind 11 = .ok (.istore 5, 2) := by decide +kernel
theorem dX5_bind_13 : decode cX5_bind 13 = .ok (.iload 5, 2) := by decide +kernel
theorem dX5_bind_15 : decode cX5_bind 15 = .ok (.bipush 41, 2) := by decide +kernel
theorem dX5_bind_17 : decode cX5_bind 17 = .ok (.if_icmp .ge 72, 3) := by decide +kernel
theorem dX5_bind_20 : decode cX5_bind 20 = .ok (.aload_n 0, 1) := by decide +kernel
theorem dX5_bind_21 : decode cX5_bind 21 = .ok (.bipush 41, 2) := by decide +kernel
theorem dX5_bind_23 : decode cX5_bind 23 = .ok (.iload 4, 2) := by decide +kernel
theorem dX5_bind_25 : decode cX5_bind 25 = .ok (.imul, 1) := by decide +kernel
theorem dX5_bind_26 : decode cX5_bind 26 = .ok (.iload_n 1, 1) := by decide +kernel
theorem dX5_bind_27 : decode cX5_bind 27 = .ok (.iadd, 1) := by decide +kernel
theorem dX5_bind_28 : decode cX5_bind 28 = .ok (.iaload, 1) := by decide +kernel
theorem dX5_bind_29 : decode cX5_bind 29 = .ok (.iload_n 3, 1) := by decide +kernel
theorem dX5_bind_30 : decode cX5_bind 30 = .ok (.iadd, 1) := by decide +kernel
theorem dX5_bind_31 : decode cX5_bind 31 = .ok (.aload_n 0, 1) := by decide +kernel
theorem dX5_bind_32 : decode cX5_bind 32 = .ok (.bipush 41, 2) := by decide +kernel
theorem dX5_bind_34 : decode cX5_bind 34 = .ok (.iload_n 2, 1) := by decide +kernel
theorem dX5_bind_35 : decode cX5_bind 35 = .ok (.imul, 1) := by decide +kernel
theorem dX5_bind_36 : decode cX5_bind 36 = .ok (.iload 5, 2) := by decide +kernel
theorem dX5_bind_38 : decode cX5_bind 38 = .ok (.iadd, 1) := by decide +kernel
theorem dX5_bind_39 : decode cX5_bind 39 = .ok (.iaload, 1) := by decide +kernel
theorem dX5_bind_40 : decode cX5_bind 40 = .ok (.iadd, 1) := by decide +kernel
theorem dX5_bind_41 : decode cX5_bind 41 = .ok (.istore 6, 2) := by decide +kernel
theorem dX5_bind_43 : decode cX5_bind 43 = .ok (.aload_n 0, 1) := by decide +kernel
theorem dX5_bind_44 : decode cX5_bind 44 = .ok (.bipush 41, 2) := by decide +kernel
theorem dX5_bind_46 : decode cX5_bind 46 = .ok (.iload 4, 2) := by decide +kernel
theorem dX5_bind_48 : decode cX5_bind 48 = .ok (.imul, 1) := by decide +kernel
theorem dX5_bind_49 : decode cX5_bind 49 = .ok (.iload 5, 2) := by decide +kernel
theorem dX5_bind_51 : decode cX5_bind 51 = .ok (.iadd, 1) := by decide +kernel
theorem dX5_bind_52 : decode cX5_bind 52 = .ok (.iload 6, 2) := by decide +kernel
theorem dX5_bind_54 : decode cX5_bind 54 = .ok (.aload_n 0, 1) := by decide +kernel
theorem dX5_bind_55 : decode cX5_bind 55 = .ok (.bipush 41, 2) := by decide +kernel
theorem dX5_bind_57 : decode cX5_bind 57 = .ok (.iload 4, 2) := by decide +kernel
theorem dX5_bind_59 : decode cX5_bind 59 = .ok (.imul, 1) := by decide +kernel
theorem dX5_bind_60 : decode cX5_bind 60 = .ok (.iload 5, 2) := by decide +kernel
theorem dX5_bind_62 : decode cX5_bind 62 = .ok (.iadd, 1) := by decide +kernel
theorem dX5_bind_63 : decode cX5_bind 63 = .ok (.iaload, 1) := by decide +kernel
theorem dX5_bind_64 : decode cX5_bind 64 = .ok (.if_icmp .ge 8, 3) := by decide +kernel
theorem dX5_bind_67 : decode cX5_bind 67 = .ok (.iload 6, 2) := by decide +kernel
theorem dX5_bind_69 : decode cX5_bind 69 = .ok (.goto 13, 3) := by decide +kernel
theorem dX5_bind_72 : decode cX5_bind 72 = .ok (.aload_n 0, 1) := by decide +kernel
theorem dX5_bind_73 : decode cX5_bind 73 = .ok (.bipush 41, 2) := by decide +kernel
theorem dX5_bind_75 : decode cX5_bind 75 = .ok (.iload 4, 2) := by decide +kernel
theorem dX5_bind_77 : decode cX5_bind 77 = .ok (.imul, 1) := by decide +kernel
theorem dX5_bind_78 : decode cX5_bind 78 = .ok (.iload 5, 2) := by decide +kernel
theorem dX5_bind_80 : decode cX5_bind 80 = .ok (.iadd, 1) := by decide +kernel
theorem dX5_bind_81 : decode cX5_bind 81 = .ok (.iaload, 1) := by decide +kernel
theorem dX5_bind_82 : decode cX5_bind 82 = .ok (.iastore, 1) := by decide +kernel
theorem dX5_bind_83 : decode cX5_bind 83 = .ok (.iinc 5 1, 3) := by decide +kernel
theorem dX5_bind_86 : decode cX5_bind 86 = .ok (.goto (-73), 3) := by decide +kernel
theorem dX5_bind_89 : decode cX5_bind 89 = .ok (.iinc 4 1, 3) := by decide +kernel
theorem dX5_bind_92 : decode cX5_bind 92 = .ok (.goto (-89), 3) := by decide +kernel
theorem dX5_bind_95 : decode cX5_bind 95 = .ok (.return_, 1) := by decide +kernel
set_option maxRecDepth 20000 in
theorem ggX5_bindAnswer_X5_bind : GoodIn wsX5_bindAnswer wsX5_bind := goodIn_r _ [4] (by decide +kernel) (by decide +kernel)
set_option maxRecDepth 20000 in
theorem gX5_bindAnswer_X5_bind : GoodIn wsX5_bindAnswer (va_wsS RX5 53 yX5_bind wsX5_bind) := goodIn_app (goodIn_of _ (by decide +kernel)) ggX5_bindAnswer_X5_bind
theorem dX5_bindAnswer_0 : decode cX5_bindAnswer 0 = .ok (.aload_n 0, 1) := by decide +kernel
theorem dX5_bindAnswer_1 : decode cX5_bindAnswer 1 = .ok (.iload_n 1, 1) := by decide +kernel
theorem dX5_bindAnswer_2 : decode cX5_bindAnswer 2 = .ok (.iload_n 2, 1) := by decide +kernel
theorem dX5_bindAnswer_3 : decode cX5_bindAnswer 3 = .ok (.iconst 1, 1) := by decide +kernel
theorem dX5_bindAnswer_4 : decode cX5_bindAnswer 4 = .ok (.iadd, 1) := by decide +kernel
theorem dX5_bindAnswer_5 : decode cX5_bindAnswer 5 = .ok (.iload_n 3, 1) := by decide +kernel
theorem dX5_bindAnswer_6 : decode cX5_bindAnswer 6 = .ok (.bipush (-2), 2) := by decide +kernel
theorem dX5_bindAnswer_8 : decode cX5_bindAnswer 8 = .ok (.if_icmp .ne 10, 3) := by decide +kernel
theorem dX5_bindAnswer_11 : decode cX5_bindAnswer 11 = .ok (.iload 4, 2) := by decide +kernel
theorem dX5_bindAnswer_13 : decode cX5_bindAnswer 13 = .ok (.iconst 1, 1) := by decide +kernel
theorem dX5_bindAnswer_14 : decode cX5_bindAnswer 14 = .ok (.isub, 1) := by decide +kernel
theorem dX5_bindAnswer_15 : decode cX5_bindAnswer 15 = .ok (.goto 4, 3) := by decide +kernel
theorem dX5_bindAnswer_18 : decode cX5_bindAnswer 18 = .ok (.iload_n 3, 1) := by decide +kernel
theorem dX5_bindAnswer_19 : decode cX5_bindAnswer 19 = .ok (.invokestatic 53, 3) := by decide +kernel
theorem dX5_bindAnswer_22 : decode cX5_bindAnswer 22 = .ok (.iload_n 3, 1) := by decide +kernel
theorem dX5_bindAnswer_23 : decode cX5_bindAnswer 23 = .ok (.bipush (-2), 2) := by decide +kernel
theorem dX5_bindAnswer_25 : decode cX5_bindAnswer 25 = .ok (.if_icmp .eq 13, 3) := by decide +kernel
theorem dX5_bindAnswer_28 : decode cX5_bindAnswer 28 = .ok (.aload_n 0, 1) := by decide +kernel
theorem dX5_bindAnswer_29 : decode cX5_bindAnswer 29 = .ok (.iload_n 2, 1) := by decide +kernel
theorem dX5_bindAnswer_30 : decode cX5_bindAnswer 30 = .ok (.iconst 1, 1) := by decide +kernel
theorem dX5_bindAnswer_31 : decode cX5_bindAnswer 31 = .ok (.iadd, 1) := by decide +kernel
theorem dX5_bindAnswer_32 : decode cX5_bindAnswer 32 = .ok (.iload_n 1, 1) := by decide +kernel
theorem dX5_bindAnswer_33 : decode cX5_bindAnswer 33 = .ok (.iload_n 3, 1) := by decide +kernel
theorem dX5_bindAnswer_34 : decode cX5_bindAnswer 34 = .ok (.ineg, 1) := by decide +kernel
theorem dX5_bindAnswer_35 : decode cX5_bindAnswer 35 = .ok (.invokestatic 53, 3) := by decide +kernel
theorem dX5_bindAnswer_38 : decode cX5_bindAnswer 38 = .ok (.return_, 1) := by decide +kernel
set_option maxRecDepth 20000 in
theorem ggX5_findBounds_X5_answerPart : GoodIn wsX5_findBounds wsX5_answerPart := goodIn_r _ [7, 1, 14, 15, 16, 17, 18, 19, 20, 21, 22, 23, 24] (by decide +kernel) (by decide +kernel)
set_option maxRecDepth 20000 in
theorem gX5_findBounds_X5_answerPart : GoodIn wsX5_findBounds (wsV RX5 46 RX5 yX5_answerPart wsX5_answerPart) := goodIn_app (goodIn_of _ (by decide +kernel)) ggX5_findBounds_X5_answerPart
set_option maxRecDepth 20000 in
theorem ggX5_findBounds_X5_bindAnswer : GoodIn wsX5_findBounds wsX5_bindAnswer := goodIn_r _ [10, 11, 12, 6, 13] (by decide +kernel) (by decide +kernel)
set_option maxRecDepth 20000 in
theorem gX5_findBounds_X5_bindAnswer : GoodIn wsX5_findBounds (va_wsS RX5 57 yX5_bindAnswer wsX5_bindAnswer) := goodIn_app (goodIn_of _ (by decide +kernel)) ggX5_findBounds_X5_bindAnswer
theorem dX5_findBounds_0 : decode cX5_findBounds 0 = .ok (.aload_n 0, 1) := by decide +kernel
theorem dX5_findBounds_1 : decode cX5_findBounds 1 = .ok (.getfield 7, 3) := by decide +kernel
theorem dX5_findBounds_4 : decode cX5_findBounds 4 = .ok (.iconst 0, 1) := by decide +kernel
theorem dX5_findBounds_5 : decode cX5_findBounds 5 = .ok (.iaload, 1) := by decide +kernel
theorem dX5_findBounds_6 : decode cX5_findBounds 6 = .ok (.istore_n 2, 1) := by decide +kernel
theorem dX5_findBounds_7 : decode cX5_findBounds 7 = .ok (.iconst 0, 1) := by decide +kernel
theorem dX5_findBounds_8 : decode cX5_findBounds 8 = .ok (.istore_n 3, 1) := by decide +kernel
theorem dX5_findBounds_9 : decode cX5_findBounds 9 = .ok (.iload_n 3, 1) := by decide +kernel
theorem dX5_findBounds_10 : decode cX5_findBounds 10 = .ok (.bipush 41, 2) := by decide +kernel
theorem dX5_findBounds_12 : decode cX5_findBounds 12 = .ok (.if_icmp .ge 78, 3) := by decide +kernel
theorem dX5_findBounds_15 : decode cX5_findBounds 15 = .ok (.iconst 0, 1) := by decide +kernel
theorem dX5_findBounds_16 : decode cX5_findBounds 16 = .ok (.istore 4, 2) := by decide +kernel
theorem dX5_findBounds_18 : decode cX5_findBounds 18 = .ok (.iload 4, 2) := by decide +kernel
theorem dX5_findBounds_20 : decode cX5_findBounds 20 = .ok (.bipush 41, 2) := by decide +kernel
theorem dX5_findBounds_22 : decode cX5_findBounds 22 = .ok (.if_icmp .ge 62, 3) := by decide +kernel
theorem dX5_findBounds_25 : decode cX5_findBounds 25 = .ok (.aload_n 0, 1) := by decide +kernel
theorem dX5_findBounds_26 : decode cX5_findBounds 26 = .ok (.getfield 28, 3) := by decide +kernel
theorem dX5_findBounds_29 : decode cX5_findBounds 29 = .ok (.bipush 41, 2) := by decide +kernel
theorem dX5_findBounds_31 : decode cX5_findBounds 31 = .ok (.iload_n 3, 1) := by decide +kernel
theorem dX5_findBounds_32 : decode cX5_findBounds 32 = .ok (.imul, 1) := by decide +kernel
theorem dX5_findBounds_33 : decode cX5_findBounds 33 = .ok (.iload 4, 2) := by decide +kernel
theorem dX5_findBounds_35 : decode cX5_findBounds 35 = .ok (.iadd, 1) := by decide +kernel
theorem dX5_findBounds_36 : decode cX5_findBounds 36 = .ok (.iload_n 3, 1) := by decide +kernel
theorem dX5_findBounds_37 : decode cX5_findBounds 37 = .ok (.iload_n 2, 1) := by decide +kernel
theorem dX5_findBounds_38 : decode cX5_findBounds 38 = .ok (.if_icmp .gt 9, 3) := by decide +kernel
theorem dX5_findBounds_41 : decode cX5_findBounds 41 = .ok (.iload 4, 2) := by decide +kernel
theorem dX5_findBounds_43 : decode cX5_findBounds 43 = .ok (.iload_n 2, 1) := by decide +kernel
theorem dX5_findBounds_44 : decode cX5_findBounds 44 = .ok (.if_icmp .le 19, 3) := by decide +kernel
theorem dX5_findBounds_47 : decode cX5_findBounds 47 = .ok (.iload_n 3, 1) := by decide +kernel
theorem dX5_findBounds_48 : decode cX5_findBounds 48 = .ok (.iload 4, 2) := by decide +kernel
theorem dX5_findBounds_50 : decode cX5_findBounds 50 = .ok (.if_icmp .ne 7, 3) := by decide +kernel
theorem dX5_findBounds_53 : decode cX5_findBounds 53 = .ok (.iconst 0, 1) := by decide +kernel
theorem dX5_findBounds_54 : decode cX5_findBounds 54 = .ok (.goto 23, 3) := by decide +kernel
theorem dX5_findBounds_57 : decode cX5_findBounds 57 = .ok (.sipush 1000, 3) := by decide +kernel
theorem dX5_findBounds_60 : decode cX5_findBounds 60 = .ok (.goto 17, 3) := by decide +kernel
theorem dX5_findBounds_63 : decode cX5_findBounds 63 = .ok (.iload 4, 2) := by decide +kernel
theorem dX5_findBounds_65 : decode cX5_findBounds 65 = .ok (.iload_n 3, 1) := by decide +kernel
theorem dX5_findBounds_66 : decode cX5_findBounds 66 = .ok (.if_icmp .le 10, 3) := by decide +kernel
theorem dX5_findBounds_69 : decode cX5_findBounds 69 = .ok (.iload 4, 2) := by decide +kernel
theorem dX5_findBounds_71 : decode cX5_findBounds 71 = .ok (.iload_n 3, 1) := by decide +kernel
theorem dX5_findBounds_72 : decode cX5_findBounds 72 = .ok (.isub, 1) := by decide +kernel
theorem dX5_findBounds_73 : decode cX5_findBounds 73 = .ok (.goto 4, 3) := by decide +kernel
theorem dX5_findBounds_76 : decode cX5_findBounds 76 = .ok (.iconst 0, 1) := by decide +kernel
theorem dX5_findBounds_77 : decode cX5_findBounds 77 = .ok (.iastore, 1) := by decide +kernel
theorem dX5_findBounds_78 : decode cX5_findBounds 78 = .ok (.iinc 4 1, 3) := by decide +kernel
theorem dX5_findBounds_81 : decode cX5_findBounds 81 = .ok (.goto (-63), 3) := by decide +kernel
theorem dX5_findBounds_84 : decode cX5_findBounds 84 = .ok (.iinc 3 1, 3) := by decide +kernel
theorem dX5_findBounds_87 : decode cX5_findBounds 87 = .ok (.goto (-78), 3) := by decide +kernel
theorem dX5_findBounds_90 : decode cX5_findBounds 90 = .ok (.iconst 0, 1) := by decide +kernel
theorem dX5_findBounds_91 : decode cX5_findBounds 91 = .ok (.istore_n 3, 1) := by decide +kernel
theorem dX5_findBounds_92 : decode cX5_findBounds 92 = .ok (.iload_n 3, 1) := by decide +kernel
theorem dX5_findBounds_93 : decode cX5_findBounds 93 = .ok (.aload_n 0, 1) := by decide +kernel
theorem dX5_findBounds_94 : decode cX5_findBounds 94 = .ok (.getfield 7, 3) := by decide +kernel
theorem dX5_findBounds_97 : decode cX5_findBounds 97 = .ok (.iconst 4, 1) := by decide +kernel
theorem dX5_findBounds_98 : decode cX5_findBounds 98 = .ok (.iaload, 1) := by decide +kernel
theorem dX5_findBounds_99 : decode cX5_findBounds 99 = .ok (.if_icmp .ge 45, 3) := by decide +kernel
theorem dX5_findBounds_102 : decode cX5_findBounds 102 = .ok (.iload_n 3, 1) := by decide +kernel
theorem dX5_findBounds_103 : decode cX5_findBounds 103 = .ok (.iload_n 1, 1) := by decide +kernel
theorem dX5_findBounds_104 : decode cX5_findBounds 104 = .ok (.if_icmp .eq 34, 3) := by decide +kernel
theorem dX5_findBounds_107 : decode cX5_findBounds 107 = .ok (.aload_n 0, 1) := by decide +kernel
theorem dX5_findBounds_108 : decode cX5_findBounds 108 = .ok (.getfield 28, 3) := by decide +kernel
theorem dX5_findBounds_111 : decode cX5_findBounds 111 = .ok (.aload_n 0, 1) := by decide +kernel
theorem dX5_findBounds_112 : decode cX5_findBounds 112 = .ok (.iload_n 3, 1) := by decide +kernel
theorem dX5_findBounds_113 : decode cX5_findBounds 113 = .ok (.iconst 0, 1) := by decide +kernel
theorem dX5_findBounds_114 : decode cX5_findBounds 114 = .ok (.invokevirtual 46, 3) := by decide +kernel
theorem dX5_findBounds_117 : decode cX5_findBounds 117 = .ok (.aload_n 0, 1) := by decide +kernel
theorem dX5_findBounds_118 : decode cX5_findBounds 118 = .ok (.iload_n 3, 1) := by decide +kernel
theorem dX5_findBounds_119 : decode cX5_findBounds 119 = .ok (.iconst 1, 1) := by decide +kernel
theorem dX5_findBounds_120 : decode cX5_findBounds 120 = .ok (.invokevirtual 46, 3) := by decide +kernel
theorem dX5_findBounds_123 : decode cX5_findBounds 123 = .ok (.aload_n 0, 1) := by decide +kernel
theorem dX5_findBounds_124 : decode cX5_findBounds 124 = .ok (.iload_n 3, 1) := by decide +kernel
theorem dX5_findBounds_125 : decode cX5_findBounds 125 = .ok (.iconst 2, 1) := by decide +kernel
theorem dX5_findBounds_126 : decode cX5_findBounds 126 = .ok (.invokevirtual 46, 3) := by decide +kernel
theorem dX5_findBounds_129 : decode cX5_findBounds 129 = .ok (.aload_n 0, 1) := by decide +kernel
theorem dX5_findBounds_130 : decode cX5_findBounds 130 = .ok (.getfield 7, 3) := by decide +kernel
theorem dX5_findBounds_133 : decode cX5_findBounds 133 = .ok (.iconst 2, 1) := by decide +kernel
theorem dX5_findBounds_134 : decode cX5_findBounds 134 = .ok (.iaload, 1) := by decide +kernel
theorem dX5_findBounds_135 : decode cX5_findBounds 135 = .ok (.invokestatic 57, 3) := by decide +kernel
theorem dX5_findBounds_138 : decode cX5_findBounds 138 = .ok (.iinc 3 1, 3) := by decide +kernel
theorem dX5_findBounds_141 : decode cX5_findBounds 141 = .ok (.goto (-49), 3) := by decide +kernel
theorem dX5_findBounds_144 : decode cX5_findBounds 144 = .ok (.return_, 1) := by decide +kernel
theorem dX5_mostIn_0 : decode cX5_mostIn 0 = .ok (.aload_n 0, 1) := by decide +kernel
theorem dX5_mostIn_1 : decode cX5_mostIn 1 = .ok (.bipush 41, 2) := by decide +kernel
theorem dX5_mostIn_3 : decode cX5_mostIn 3 = .ok (.iload_n 1, 1) := by decide +kernel
theorem dX5_mostIn_4 : decode cX5_mostIn 4 = .ok (.imul, 1) := by decide +kernel
theorem dX5_mostIn_5 : decode cX5_mostIn 5 = .ok (.iload_n 2, 1) := by decide +kernel
theorem dX5_mostIn_6 : decode cX5_mostIn 6 = .ok (.iadd, 1) := by decide +kernel
theorem dX5_mostIn_7 : decode cX5_mostIn 7 = .ok (.iconst 1, 1) := by decide +kernel
theorem dX5_mostIn_8 : decode cX5_mostIn 8 = .ok (.iadd, 1) := by decide +kernel
theorem dX5_mostIn_9 : decode cX5_mostIn 9 = .ok (.iaload, 1) := by decide +kernel
theorem dX5_mostIn_10 : decode cX5_mostIn 10 = .ok (.ireturn, 1) := by decide +kernel
theorem dX5_leastIn_0 : decode cX5_leastIn 0 = .ok (.aload_n 0, 1) := by decide +kernel
theorem dX5_leastIn_1 : decode cX5_leastIn 1 = .ok (.bipush 41, 2) := by decide +kernel
theorem dX5_leastIn_3 : decode cX5_leastIn 3 = .ok (.iload_n 2, 1) := by decide +kernel
theorem dX5_leastIn_4 : decode cX5_leastIn 4 = .ok (.iconst 1, 1) := by decide +kernel
theorem dX5_leastIn_5 : decode cX5_leastIn 5 = .ok (.iadd, 1) := by decide +kernel
theorem dX5_leastIn_6 : decode cX5_leastIn 6 = .ok (.imul, 1) := by decide +kernel
theorem dX5_leastIn_7 : decode cX5_leastIn 7 = .ok (.iload_n 1, 1) := by decide +kernel
theorem dX5_leastIn_8 : decode cX5_leastIn 8 = .ok (.iadd, 1) := by decide +kernel
theorem dX5_leastIn_9 : decode cX5_leastIn 9 = .ok (.iaload, 1) := by decide +kernel
theorem dX5_leastIn_10 : decode cX5_leastIn 10 = .ok (.ineg, 1) := by decide +kernel
theorem dX5_leastIn_11 : decode cX5_leastIn 11 = .ok (.ireturn, 1) := by decide +kernel
set_option maxRecDepth 20000 in
theorem ggX5_knownIn_X5_mostIn : GoodIn wsX5_knownIn wsX5_mostIn := goodIn_r _ [5] (by decide +kernel) (by decide +kernel)
set_option maxRecDepth 20000 in
theorem gX5_knownIn_X5_mostIn : GoodIn wsX5_knownIn (va_wsS RX5 61 yX5_mostIn wsX5_mostIn) := goodIn_app (goodIn_of _ (by decide +kernel)) ggX5_knownIn_X5_mostIn
set_option maxRecDepth 20000 in
theorem ggX5_knownIn_X5_leastIn : GoodIn wsX5_knownIn wsX5_leastIn := goodIn_r _ [8] (by decide +kernel) (by decide +kernel)
set_option maxRecDepth 20000 in
theorem gX5_knownIn_X5_leastIn : GoodIn wsX5_knownIn (va_wsS RX5 65 yX5_leastIn wsX5_leastIn) := goodIn_app (goodIn_of _ (by decide +kernel)) ggX5_knownIn_X5_leastIn
theorem dX5_knownIn_0 : decode cX5_knownIn 0 = .ok (.iconst 0, 1) := by decide +kernel
theorem dX5_knownIn_1 : decode cX5_knownIn 1 = .ok (.istore_n 2, 1) := by decide +kernel
theorem dX5_knownIn_2 : decode cX5_knownIn 2 = .ok (.iconst 0, 1) := by decide +kernel
theorem dX5_knownIn_3 : decode cX5_knownIn 3 = .ok (.istore_n 3, 1) := by decide +kernel
theorem dX5_knownIn_4 : decode cX5_knownIn 4 = .ok (.iload_n 3, 1) := by decide +kernel
theorem dX5_knownIn_5 : decode cX5_knownIn 5 = .ok (.aload_n 0, 1) := by decide +kernel
theorem dX5_knownIn_6 : decode cX5_knownIn 6 = .ok (.getfield 7, 3) := by decide +kernel
theorem dX5_knownIn_9 : decode cX5_knownIn 9 = .ok (.iconst 0, 1) := by decide +kernel
theorem dX5_knownIn_10 : decode cX5_knownIn 10 = .ok (.iaload, 1) := by decide +kernel
theorem dX5_knownIn_11 : decode cX5_knownIn 11 = .ok (.if_icmp .ge 32, 3) := by decide +kernel
theorem dX5_knownIn_14 : decode cX5_knownIn 14 = .ok (.iload_n 2, 1) := by decide +kernel
theorem dX5_knownIn_15 : decode cX5_knownIn 15 = .ok (.aload_n 1, 1) := by decide +kernel
theorem dX5_knownIn_16 : decode cX5_knownIn 16 = .ok (.iload_n 3, 1) := by decide +kernel
theorem dX5_knownIn_17 : decode cX5_knownIn 17 = .ok (.iload_n 3, 1) := by decide +kernel
theorem dX5_knownIn_18 : decode cX5_knownIn 18 = .ok (.invokestatic 61, 3) := by decide +kernel
theorem dX5_knownIn_21 : decode cX5_knownIn 21 = .ok (.aload_n 1, 1) := by decide +kernel
theorem dX5_knownIn_22 : decode cX5_knownIn 22 = .ok (.iload_n 3, 1) := by decide +kernel
theorem dX5_knownIn_23 : decode cX5_knownIn 23 = .ok (.iload_n 3, 1) := by decide +kernel
theorem dX5_knownIn_24 : decode cX5_knownIn 24 = .ok (.invokestatic 65, 3) := by decide +kernel
theorem dX5_knownIn_27 : decode cX5_knownIn 27 = .ok (.if_icmp .ne 7, 3) := by decide +kernel
theorem dX5_knownIn_30 : decode cX5_knownIn 30 = .ok (.iconst 1, 1) := by decide +kernel
theorem dX5_knownIn_31 : decode cX5_knownIn 31 = .ok (.goto 4, 3) := by decide +kernel
theorem dX5_knownIn_34 : decode cX5_knownIn 34 = .ok (.iconst 0, 1) := by decide +kernel
theorem dX5_knownIn_35 : decode cX5_knownIn 35 = .ok (.iadd, 1) := by decide +kernel
theorem dX5_knownIn_36 : decode cX5_knownIn 36 = .ok (.istore_n 2, 1) := by decide +kernel
theorem dX5_knownIn_37 : decode cX5_knownIn 37 = .ok (.iinc 3 1, 3) := by decide +kernel
theorem dX5_knownIn_40 : decode cX5_knownIn 40 = .ok (.goto (-36), 3) := by decide +kernel
theorem dX5_knownIn_43 : decode cX5_knownIn 43 = .ok (.iload_n 2, 1) := by decide +kernel
theorem dX5_knownIn_44 : decode cX5_knownIn 44 = .ok (.ireturn, 1) := by decide +kernel
set_option maxRecDepth 20000 in
theorem ggX5_whyNoRange_X5_isPlace : GoodIn wsX5_whyNoRange wsX5_isPlace := goodIn_r _ [5, 6, 7, 8, 4, 9, 10, 11, 12, 13, 14, 15, 16, 17, 18, 19, 20] (by decide +kernel) (by decide +kernel)
set_option maxRecDepth 20000 in
theorem gX5_whyNoRange_X5_isPlace : GoodIn wsX5_whyNoRange (wsV RX5 68 RX5 yX5_isPlace wsX5_isPlace) := goodIn_app (goodIn_of _ (by decide +kernel)) ggX5_whyNoRange_X5_isPlace
theorem dX5_whyNoRange_0 : decode cX5_whyNoRange 0 = .ok (.aload_n 0, 1) := by decide +kernel
theorem dX5_whyNoRange_1 : decode cX5_whyNoRange 1 = .ok (.iload_n 1, 1) := by decide +kernel
theorem dX5_whyNoRange_2 : decode cX5_whyNoRange 2 = .ok (.invokevirtual 68, 3) := by decide +kernel
theorem dX5_whyNoRange_5 : decode cX5_whyNoRange 5 = .ok (.ifCond .eq 11, 3) := by decide +kernel
theorem dX5_whyNoRange_8 : decode cX5_whyNoRange 8 = .ok (.aload_n 0, 1) := by decide +kernel
theorem dX5_whyNoRange_9 : decode cX5_whyNoRange 9 = .ok (.iload_n 2, 1) := by decide +kernel
theorem dX5_whyNoRange_10 : decode cX5_whyNoRange 10 = .ok (.invokevirtual 68, 3) := by decide +kernel
theorem dX5_whyNoRange_13 : decode cX5_whyNoRange 13 = .ok (.ifCond .ne 7, 3) := by decide +kernel
theorem dX5_whyNoRange_16 : decode cX5_whyNoRange 16 = .ok (.iconst 1, 1) := by decide +kernel
theorem dX5_whyNoRange_17 : decode cX5_whyNoRange 17 = .ok (.goto 13, 3) := by decide +kernel
theorem dX5_whyNoRange_20 : decode cX5_whyNoRange 20 = .ok (.iload_n 2, 1) := by decide +kernel
theorem dX5_whyNoRange_21 : decode cX5_whyNoRange 21 = .ok (.iload_n 1, 1) := by decide +kernel
theorem dX5_whyNoRange_22 : decode cX5_whyNoRange 22 = .ok (.if_icmp .ge 7, 3) := by decide +kernel
theorem dX5_whyNoRange_25 : decode cX5_whyNoRange 25 = .ok (.iconst 2, 1) := by decide +kernel
theorem dX5_whyNoRange_26 : decode cX5_whyNoRange 26 = .ok (.goto 4, 3) := by decide +kernel
theorem dX5_whyNoRange_29 : decode cX5_whyNoRange 29 = .ok (.iconst 0, 1) := by decide +kernel
theorem dX5_whyNoRange_30 : decode cX5_whyNoRange 30 = .ok (.ireturn, 1) := by decide +kernel
set_option maxRecDepth 20000 in
theorem ggX5_least_X5_whyNoRange : GoodIn wsX5_least wsX5_whyNoRange := goodIn_r _ [7, 8, 9, 10, 6, 11, 12, 13, 14, 15, 33, 34, 35, 36, 37, 38, 39, 40, 41, 42, 43] (by decide +kernel) (by decide +kernel)
set_option maxRecDepth 20000 in
theorem gX5_least_X5_whyNoRange : GoodIn wsX5_least (wsV RX5 72 RX5 yX5_whyNoRange wsX5_whyNoRange) := goodIn_app (goodIn_of _ (by decide +kernel)) ggX5_least_X5_whyNoRange
set_option maxRecDepth 20000 in
theorem ggX5_least_X5_findBounds : GoodIn wsX5_least wsX5_findBounds := goodIn_r _ [19, 12, 2, 20, 21, 22, 6, 23, 24, 25, 26, 27, 28, 29, 33, 34, 35, 36, 37, 38, 39, 40, 41, 42, 43] (by decide +kernel) (by decide +kernel)
set_option maxRecDepth 20000 in
theorem gX5_least_X5_findBounds : GoodIn wsX5_least (wsV RX5 75 RX5 yX5_findBounds wsX5_findBounds) := goodIn_app (goodIn_of _ (by decide +kernel)) ggX5_least_X5_findBounds
set_option maxRecDepth 20000 in
theorem ggX5_least_X5_leastIn : GoodIn wsX5_least wsX5_leastIn := goodIn_r _ [32] (by decide +kernel) (by decide +kernel)
set_option maxRecDepth 20000 in
theorem gX5_least_X5_leastIn : GoodIn wsX5_least (va_wsS RX5 65 yX5_leastIn wsX5_leastIn) := goodIn_app (goodIn_of _ (by decide +kernel)) ggX5_least_X5_leastIn
theorem dX5_least_0 : decode cX5_least 0 = .ok (.aload_n 0, 1) := by decide +kernel
theorem dX5_least_1 : decode cX5_least 1 = .ok (.aload_n 0, 1) := by decide +kernel
theorem dX5_least_2 : decode cX5_least 2 = .ok (.iload_n 1, 1) := by decide +kernel
theorem dX5_least_3 : decode cX5_least 3 = .ok (.iload_n 2, 1) := by decide +kernel
theorem dX5_least_4 : decode cX5_least 4 = .ok (.invokevirtual 72, 3) := by decide +kernel
theorem dX5_least_7 : decode cX5_least 7 = .ok (.putfield 38, 3) := by decide +kernel
theorem dX5_least_10 : decode cX5_least 10 = .ok (.aload_n 0, 1) := by decide +kernel
theorem dX5_least_11 : decode cX5_least 11 = .ok (.getfield 38, 3) := by decide +kernel
theorem dX5_least_14 : decode cX5_least 14 = .ok (.ifCond .le 5, 3) := by decide +kernel
theorem dX5_least_17 : decode cX5_least 17 = .ok (.iconst 0, 1) := by decide +kernel
theorem dX5_least_18 : decode cX5_least 18 = .ok (.ireturn, 1) := by decide +kernel
theorem dX5_least_19 : decode cX5_least 19 = .ok (.aload_n 0, 1) := by decide +kernel
theorem dX5_least_20 : decode cX5_least 20 = .ok (.iconst (-1), 1) := by decide +kernel
theorem dX5_least_21 : decode cX5_least 21 = .ok (.invokevirtual 75, 3) := by decide +kernel
theorem dX5_least_24 : decode cX5_least 24 = .ok (.aload_n 0, 1) := by decide +kernel
theorem dX5_least_25 : decode cX5_least 25 = .ok (.getfield 28, 3) := by decide +kernel
theorem dX5_least_28 : decode cX5_least 28 = .ok (.iload_n 1, 1) := by decide +kernel
theorem dX5_least_29 : decode cX5_least 29 = .ok (.iload_n 2, 1) := by decide +kernel
theorem dX5_least_30 : decode cX5_least 30 = .ok (.invokestatic 65, 3) := by decide +kernel
theorem dX5_least_33 : decode cX5_least 33 = .ok (.ireturn, 1) := by decide +kernel
set_option maxRecDepth 20000 in
theorem ggX5_most_X5_whyNoRange : GoodIn wsX5_most wsX5_whyNoRange := goodIn_r _ [7, 8, 9, 10, 6, 11, 12, 13, 14, 15, 33, 34, 35, 36, 37, 38, 39, 40, 41, 42, 43] (by decide +kernel) (by decide +kernel)
set_option maxRecDepth 20000 in
theorem gX5_most_X5_whyNoRange : GoodIn wsX5_most (wsV RX5 72 RX5 yX5_whyNoRange wsX5_whyNoRange) := goodIn_app (goodIn_of _ (by decide +kernel)) ggX5_most_X5_whyNoRange
set_option maxRecDepth 20000 in
theorem ggX5_most_X5_findBounds : GoodIn wsX5_most wsX5_findBounds := goodIn_r _ [19, 12, 2, 20, 21, 22, 6, 23, 24, 25, 26, 27, 28, 29, 33, 34, 35, 36, 37, 38, 39, 40, 41, 42, 43] (by decide +kernel) (by decide +kernel)
set_option maxRecDepth 20000 in
theorem gX5_most_X5_findBounds : GoodIn wsX5_most (wsV RX5 75 RX5 yX5_findBounds wsX5_findBounds) := goodIn_app (goodIn_of _ (by decide +kernel)) ggX5_most_X5_findBounds
set_option maxRecDepth 20000 in
theorem ggX5_most_X5_mostIn : GoodIn wsX5_most wsX5_mostIn := goodIn_r _ [32] (by decide +kernel) (by decide +kernel)
set_option maxRecDepth 20000 in
theorem gX5_most_X5_mostIn : GoodIn wsX5_most (va_wsS RX5 61 yX5_mostIn wsX5_mostIn) := goodIn_app (goodIn_of _ (by decide +kernel)) ggX5_most_X5_mostIn
theorem dX5_most_0 : decode cX5_most 0 = .ok (.aload_n 0, 1) := by decide +kernel
theorem dX5_most_1 : decode cX5_most 1 = .ok (.aload_n 0, 1) := by decide +kernel
theorem dX5_most_2 : decode cX5_most 2 = .ok (.iload_n 1, 1) := by decide +kernel
theorem dX5_most_3 : decode cX5_most 3 = .ok (.iload_n 2, 1) := by decide +kernel
theorem dX5_most_4 : decode cX5_most 4 = .ok (.invokevirtual 72, 3) := by decide +kernel
theorem dX5_most_7 : decode cX5_most 7 = .ok (.putfield 38, 3) := by decide +kernel
theorem dX5_most_10 : decode cX5_most 10 = .ok (.aload_n 0, 1) := by decide +kernel
theorem dX5_most_11 : decode cX5_most 11 = .ok (.getfield 38, 3) := by decide +kernel
theorem dX5_most_14 : decode cX5_most 14 = .ok (.ifCond .le 5, 3) := by decide +kernel
theorem dX5_most_17 : decode cX5_most 17 = .ok (.iconst 0, 1) := by decide +kernel
theorem dX5_most_18 : decode cX5_most 18 = .ok (.ireturn, 1) := by decide +kernel
theorem dX5_most_19 : decode cX5_most 19 = .ok (.aload_n 0, 1) := by decide +kernel
theorem dX5_most_20 : decode cX5_most 20 = .ok (.iconst (-1), 1) := by decide +kernel
theorem dX5_most_21 : decode cX5_most 21 = .ok (.invokevirtual 75, 3) := by decide +kernel
theorem dX5_most_24 : decode cX5_most 24 = .ok (.aload_n 0, 1) := by decide +kernel
theorem dX5_most_25 : decode cX5_most 25 = .ok (.getfield 28, 3) := by decide +kernel
theorem dX5_most_28 : decode cX5_most 28 = .ok (.iload_n 1, 1) := by decide +kernel
theorem dX5_most_29 : decode cX5_most 29 = .ok (.iload_n 2, 1) := by decide +kernel
theorem dX5_most_30 : decode cX5_most 30 = .ok (.invokestatic 61, 3) := by decide +kernel
theorem dX5_most_33 : decode cX5_most 33 = .ok (.ireturn, 1) := by decide +kernel
set_option maxRecDepth 20000 in
theorem ggX5_knownOf_X5_mostIn : GoodIn wsX5_knownOf wsX5_mostIn := goodIn_r _ [5] (by decide +kernel) (by decide +kernel)
set_option maxRecDepth 20000 in
theorem gX5_knownOf_X5_mostIn : GoodIn wsX5_knownOf (va_wsS RX5 61 yX5_mostIn wsX5_mostIn) := goodIn_app (goodIn_of _ (by decide +kernel)) ggX5_knownOf_X5_mostIn
set_option maxRecDepth 20000 in
theorem ggX5_knownOf_X5_leastIn : GoodIn wsX5_knownOf wsX5_leastIn := goodIn_r _ [8] (by decide +kernel) (by decide +kernel)
set_option maxRecDepth 20000 in
theorem gX5_knownOf_X5_leastIn : GoodIn wsX5_knownOf (va_wsS RX5 65 yX5_leastIn wsX5_leastIn) := goodIn_app (goodIn_of _ (by decide +kernel)) ggX5_knownOf_X5_leastIn
theorem dX5_knownOf_0 : decode cX5_knownOf 0 = .ok (.aload_n 0, 1) := by decide +kernel
theorem dX5_knownOf_1 : decode cX5_knownOf 1 = .ok (.getfield 28, 3) := by decide +kernel
theorem dX5_knownOf_4 : decode cX5_knownOf 4 = .ok (.iload_n 1, 1) := by decide +kernel
theorem dX5_knownOf_5 : decode cX5_knownOf 5 = .ok (.iload_n 1, 1) := by decide +kernel
theorem dX5_knownOf_6 : decode cX5_knownOf 6 = .ok (.invokestatic 61, 3) := by decide +kernel
theorem dX5_knownOf_9 : decode cX5_knownOf 9 = .ok (.aload_n 0, 1) := by decide +kernel
theorem dX5_knownOf_10 : decode cX5_knownOf 10 = .ok (.getfield 28, 3) := by decide +kernel
theorem dX5_knownOf_13 : decode cX5_knownOf 13 = .ok (.iload_n 1, 1) := by decide +kernel
theorem dX5_knownOf_14 : decode cX5_knownOf 14 = .ok (.iload_n 1, 1) := by decide +kernel
theorem dX5_knownOf_15 : decode cX5_knownOf 15 = .ok (.invokestatic 65, 3) := by decide +kernel
theorem dX5_knownOf_18 : decode cX5_knownOf 18 = .ok (.if_icmp .ne 15, 3) := by decide +kernel
theorem dX5_knownOf_21 : decode cX5_knownOf 21 = .ok (.aload_n 0, 1) := by decide +kernel
theorem dX5_knownOf_22 : decode cX5_knownOf 22 = .ok (.getfield 28, 3) := by decide +kernel
theorem dX5_knownOf_25 : decode cX5_knownOf 25 = .ok (.iload_n 1, 1) := by decide +kernel
theorem dX5_knownOf_26 : decode cX5_knownOf 26 = .ok (.iload_n 1, 1) := by decide +kernel
theorem dX5_knownOf_27 : decode cX5_knownOf 27 = .ok (.invokestatic 61, 3) := by decide +kernel
theorem dX5_knownOf_30 : decode cX5_knownOf 30 = .ok (.goto 4, 3) := by decide +kernel
theorem dX5_knownOf_33 : decode cX5_knownOf 33 = .ok (.iconst (-1), 1) := by decide +kernel
theorem dX5_knownOf_34 : decode cX5_knownOf 34 = .ok (.ireturn, 1) := by decide +kernel
set_option maxRecDepth 20000 in
theorem ggX5_known_X5_isPlace : GoodIn wsX5_known wsX5_isPlace := goodIn_r _ [6, 7, 8, 9, 5, 10, 36, 37, 38, 39, 40, 41, 42, 43, 44, 45, 46] (by decide +kernel) (by decide +kernel)
set_option maxRecDepth 20000 in
theorem gX5_known_X5_isPlace : GoodIn wsX5_known (wsV RX5 68 RX5 yX5_isPlace wsX5_isPlace) := goodIn_app (goodIn_of _ (by decide +kernel)) ggX5_known_X5_isPlace
set_option maxRecDepth 20000 in
theorem ggX5_known_X5_findBounds : GoodIn wsX5_known wsX5_findBounds := goodIn_r _ [14, 7, 15, 16, 17, 18, 5, 19, 20, 21, 22, 23, 24, 25, 36, 37, 38, 39, 40, 41, 42, 43, 44, 45, 46] (by decide +kernel) (by decide +kernel)
set_option maxRecDepth 20000 in
theorem gX5_known_X5_findBounds : GoodIn wsX5_known (wsV RX5 75 RX5 yX5_findBounds wsX5_findBounds) := goodIn_app (goodIn_of _ (by decide +kernel)) ggX5_known_X5_findBounds
set_option maxRecDepth 20000 in
theorem ggX5_known_X5_knownOf : GoodIn wsX5_known wsX5_knownOf := goodIn_r _ [29, 15, 30, 31, 5, 32, 33, 34, 35, 36, 37, 38, 39, 40, 41, 42, 43, 44, 45, 46] (by decide +kernel) (by decide +kernel)
set_option maxRecDepth 20000 in
theorem gX5_known_X5_knownOf : GoodIn wsX5_known (wsV RX5 78 RX5 yX5_knownOf wsX5_knownOf) := goodIn_app (goodIn_of _ (by decide +kernel)) ggX5_known_X5_knownOf
theorem dX5_known_0 : decode cX5_known 0 = .ok (.aload_n 0, 1) := by decide +kernel
theorem dX5_known_1 : decode cX5_known 1 = .ok (.aload_n 0, 1) := by decide +kernel
theorem dX5_known_2 : decode cX5_known 2 = .ok (.iload_n 1, 1) := by decide +kernel
theorem dX5_known_3 : decode cX5_known 3 = .ok (.invokevirtual 68, 3) := by decide +kernel
theorem dX5_known_6 : decode cX5_known 6 = .ok (.ifCond .eq 7, 3) := by decide +kernel
theorem dX5_known_9 : decode cX5_known 9 = .ok (.iconst 0, 1) := by decide +kernel
theorem dX5_known_10 : decode cX5_known 10 = .ok (.goto 4, 3) := by decide +kernel
theorem dX5_known_13 : decode cX5_known 13 = .ok (.iconst 1, 1) := by decide +kernel
theorem dX5_known_14 : decode cX5_known 14 = .ok (.putfield 38, 3) := by decide +kernel
theorem dX5_known_17 : decode cX5_known 17 = .ok (.aload_n 0, 1) := by decide +kernel
theorem dX5_known_18 : decode cX5_known 18 = .ok (.getfield 38, 3) := by decide +kernel
theorem dX5_known_21 : decode cX5_known 21 = .ok (.ifCond .le 5, 3) := by decide +kernel
theorem dX5_known_24 : decode cX5_known 24 = .ok (.iconst 0, 1) := by decide +kernel
theorem dX5_known_25 : decode cX5_known 25 = .ok (.ireturn, 1) := by decide +kernel
theorem dX5_known_26 : decode cX5_known 26 = .ok (.aload_n 0, 1) := by decide +kernel
theorem dX5_known_27 : decode cX5_known 27 = .ok (.iconst (-1), 1) := by decide +kernel
theorem dX5_known_28 : decode cX5_known 28 = .ok (.invokevirtual 75, 3) := by decide +kernel
theorem dX5_known_31 : decode cX5_known 31 = .ok (.aload_n 0, 1) := by decide +kernel
theorem dX5_known_32 : decode cX5_known 32 = .ok (.iload_n 1, 1) := by decide +kernel
theorem dX5_known_33 : decode cX5_known 33 = .ok (.invokevirtual 78, 3) := by decide +kernel
theorem dX5_known_36 : decode cX5_known 36 = .ok (.ireturn, 1) := by decide +kernel
set_option maxRecDepth 20000 in
theorem ggX5_knownAt_X5_findBounds : GoodIn wsX5_knownAt wsX5_findBounds := goodIn_r _ [7, 2, 8, 9, 10, 11, 6, 12, 13, 14, 15, 16, 17, 18, 29, 30, 31, 32, 33, 34, 35, 36, 37, 38, 39] (by decide +kernel) (by decide +kernel)
set_option maxRecDepth 20000 in
theorem gX5_knownAt_X5_findBounds : GoodIn wsX5_knownAt (wsV RX5 75 RX5 yX5_findBounds wsX5_findBounds) := goodIn_app (goodIn_of _ (by decide +kernel)) ggX5_knownAt_X5_findBounds
set_option maxRecDepth 20000 in
theorem ggX5_knownAt_X5_knownOf : GoodIn wsX5_knownAt wsX5_knownOf := goodIn_r _ [22, 8, 23, 24, 6, 25, 26, 27, 28, 29, 30, 31, 32, 33, 34, 35, 36, 37, 38, 39] (by decide +kernel) (by decide +kernel)
set_option maxRecDepth 20000 in
theorem gX5_knownAt_X5_knownOf : GoodIn wsX5_knownAt (wsV RX5 78 RX5 yX5_knownOf wsX5_knownOf) := goodIn_app (goodIn_of _ (by decide +kernel)) ggX5_knownAt_X5_knownOf
theorem dX5_knownAt_0 : decode cX5_knownAt 0 = .ok (.aload_n 0, 1) := by decide +kernel
theorem dX5_knownAt_1 : decode cX5_knownAt 1 = .ok (.iload_n 1, 1) := by decide +kernel
theorem dX5_knownAt_2 : decode cX5_knownAt 2 = .ok (.ifCond .ge 7, 3) := by decide +kernel
theorem dX5_knownAt_5 : decode cX5_knownAt 5 = .ok (.iconst 1, 1) := by decide +kernel
theorem dX5_knownAt_6 : decode cX5_knownAt 6 = .ok (.goto 4, 3) := by decide +kernel
theorem dX5_knownAt_9 : decode cX5_knownAt 9 = .ok (.iconst 0, 1) := by decide +kernel
theorem dX5_knownAt_10 : decode cX5_knownAt 10 = .ok (.putfield 38, 3) := by decide +kernel
theorem dX5_knownAt_13 : decode cX5_knownAt 13 = .ok (.aload_n 0, 1) := by decide +kernel
theorem dX5_knownAt_14 : decode cX5_knownAt 14 = .ok (.getfield 38, 3) := by decide +kernel
theorem dX5_knownAt_17 : decode cX5_knownAt 17 = .ok (.ifCond .le 5, 3) := by decide +kernel
theorem dX5_knownAt_20 : decode cX5_knownAt 20 = .ok (.iconst 0, 1) := by decide +kernel
theorem dX5_knownAt_21 : decode cX5_knownAt 21 = .ok (.ireturn, 1) := by decide +kernel
theorem dX5_knownAt_22 : decode cX5_knownAt 22 = .ok (.aload_n 0, 1) := by decide +kernel
theorem dX5_knownAt_23 : decode cX5_knownAt 23 = .ok (.iconst (-1), 1) := by decide +kernel
theorem dX5_knownAt_24 : decode cX5_knownAt 24 = .ok (.invokevirtual 75, 3) := by decide +kernel
theorem dX5_knownAt_27 : decode cX5_knownAt 27 = .ok (.iconst (-1), 1) := by decide +kernel
theorem dX5_knownAt_28 : decode cX5_knownAt 28 = .ok (.istore_n 2, 1) := by decide +kernel
theorem dX5_knownAt_29 : decode cX5_knownAt 29 = .ok (.iconst 0, 1) := by decide +kernel
theorem dX5_knownAt_30 : decode cX5_knownAt 30 = .ok (.istore_n 3, 1) := by decide +kernel
theorem dX5_knownAt_31 : decode cX5_knownAt 31 = .ok (.iconst 0, 1) := by decide +kernel
theorem dX5_knownAt_32 : decode cX5_knownAt 32 = .ok (.istore 4, 2) := by decide +kernel
theorem dX5_knownAt_34 : decode cX5_knownAt 34 = .ok (.iload 4, 2) := by decide +kernel
theorem dX5_knownAt_36 : decode cX5_knownAt 36 = .ok (.aload_n 0, 1) := by decide +kernel
theorem dX5_knownAt_37 : decode cX5_knownAt 37 = .ok (.getfield 7, 3) := by decide +kernel
theorem dX5_knownAt_40 : decode cX5_knownAt 40 = .ok (.iconst 0, 1) := by decide +kernel
theorem dX5_knownAt_41 : decode cX5_knownAt 41 = .ok (.iaload, 1) := by decide +kernel
theorem dX5_knownAt_42 : decode cX5_knownAt 42 = .ok (.if_icmp .ge 34, 3) := by decide +kernel
theorem dX5_knownAt_45 : decode cX5_knownAt 45 = .ok (.aload_n 0, 1) := by decide +kernel
theorem dX5_knownAt_46 : decode cX5_knownAt 46 = .ok (.iload 4, 2) := by decide +kernel
theorem dX5_knownAt_48 : decode cX5_knownAt 48 = .ok (.invokevirtual 78, 3) := by decide +kernel
theorem dX5_knownAt_51 : decode cX5_knownAt 51 = .ok (.iconst (-1), 1) := by decide +kernel
theorem dX5_knownAt_52 : decode cX5_knownAt 52 = .ok (.if_icmp .eq 18, 3) := by decide +kernel
theorem dX5_knownAt_55 : decode cX5_knownAt 55 = .ok (.iload_n 3, 1) := by decide +kernel
theorem dX5_knownAt_56 : decode cX5_knownAt 56 = .ok (.iload_n 1, 1) := by decide +kernel
theorem dX5_knownAt_57 : decode cX5_knownAt 57 = .ok (.if_icmp .ne 8, 3) := by decide +kernel
theorem dX5_knownAt_60 : decode cX5_knownAt 60 = .ok (.iload 4, 2) := by decide +kernel
theorem dX5_knownAt_62 : decode cX5_knownAt 62 = .ok (.goto 4, 3) := by decide +kernel
theorem dX5_knownAt_65 : decode cX5_knownAt 65 = .ok (.iload_n 2, 1) := by decide +kernel
theorem dX5_knownAt_66 : decode cX5_knownAt 66 = .ok (.istore_n 2, 1) := by decide +kernel
theorem dX5_knownAt_67 : decode cX5_knownAt 67 = .ok (.iinc 3 1, 3) := by decide +kernel
theorem dX5_knownAt_70 : decode cX5_knownAt 70 = .ok (.iinc 4 1, 3) := by decide +kernel
theorem dX5_knownAt_73 : decode cX5_knownAt 73 = .ok (.goto (-39), 3) := by decide +kernel
theorem dX5_knownAt_76 : decode cX5_knownAt 76 = .ok (.iload_n 2, 1) := by decide +kernel
theorem dX5_knownAt_77 : decode cX5_knownAt 77 = .ok (.ireturn, 1) := by decide +kernel
set_option maxRecDepth 20000 in
theorem ggX5_append_X5_within : GoodIn wsX5_append wsX5_within := goodIn_r _ [7] (by decide +kernel) (by decide +kernel)
set_option maxRecDepth 20000 in
theorem gX5_append_X5_within : GoodIn wsX5_append (va_wsS RX5 42 yX5_within wsX5_within) := goodIn_app (goodIn_of _ (by decide +kernel)) ggX5_append_X5_within
theorem dX5_append_0 : decode cX5_append 0 = .ok (.aload_n 0, 1) := by decide +kernel
theorem dX5_append_1 : decode cX5_append 1 = .ok (.iload_n 1, 1) := by decide +kernel
theorem dX5_append_2 : decode cX5_append 2 = .ok (.iconst 0, 1) := by decide +kernel
theorem dX5_append_3 : decode cX5_append 3 = .ok (.sipush 255, 3) := by decide +kernel
theorem dX5_append_6 : decode cX5_append 6 = .ok (.invokestatic 42, 3) := by decide +kernel
theorem dX5_append_9 : decode cX5_append 9 = .ok (.ifCond .ne 7, 3) := by decide +kernel
theorem dX5_append_12 : decode cX5_append 12 = .ok (.iconst 1, 1) := by decide +kernel
theorem dX5_append_13 : decode cX5_append 13 = .ok (.goto 17, 3) := by decide +kernel
theorem dX5_append_16 : decode cX5_append 16 = .ok (.aload_n 0, 1) := by decide +kernel
theorem dX5_append_17 : decode cX5_append 17 = .ok (.getfield 82, 3) := by decide +kernel
theorem dX5_append_20 : decode cX5_append 20 = .ok (.bipush 100, 2) := by decide +kernel
theorem dX5_append_22 : decode cX5_append 22 = .ok (.if_icmp .ne 7, 3) := by decide +kernel
theorem dX5_append_25 : decode cX5_append 25 = .ok (.iconst 2, 1) := by decide +kernel
theorem dX5_append_26 : decode cX5_append 26 = .ok (.goto 4, 3) := by decide +kernel
theorem dX5_append_29 : decode cX5_append 29 = .ok (.iconst 0, 1) := by decide +kernel
theorem dX5_append_30 : decode cX5_append 30 = .ok (.putfield 38, 3) := by decide +kernel
theorem dX5_append_33 : decode cX5_append 33 = .ok (.aload_n 0, 1) := by decide +kernel
theorem dX5_append_34 : decode cX5_append 34 = .ok (.getfield 38, 3) := by decide +kernel
theorem dX5_append_37 : decode cX5_append 37 = .ok (.ifCond .le 5, 3) := by decide +kernel
theorem dX5_append_40 : decode cX5_append 40 = .ok (.iconst 0, 1) := by decide +kernel
theorem dX5_append_41 : decode cX5_append 41 = .ok (.ireturn, 1) := by decide +kernel
theorem dX5_append_42 : decode cX5_append 42 = .ok (.aload_n 0, 1) := by decide +kernel
theorem dX5_append_43 : decode cX5_append 43 = .ok (.getfield 25, 3) := by decide +kernel
theorem dX5_append_46 : decode cX5_append 46 = .ok (.aload_n 0, 1) := by decide +kernel
theorem dX5_append_47 : decode cX5_append 47 = .ok (.getfield 82, 3) := by decide +kernel
theorem dX5_append_50 : decode cX5_append 50 = .ok (.iload_n 1, 1) := by decide +kernel
theorem dX5_append_51 : decode cX5_append 51 = .ok (.iastore, 1) := by decide +kernel
theorem dX5_append_52 : decode cX5_append 52 = .ok (.aload_n 0, 1) := by decide +kernel
theorem dX5_append_53 : decode cX5_append 53 = .ok (.dup, 1) := by decide +kernel
theorem dX5_append_54 : decode cX5_append 54 = .ok (.getfield 82, 3) := by decide +kernel
theorem dX5_append_57 : decode cX5_append 57 = .ok (.iconst 1, 1) := by decide +kernel
theorem dX5_append_58 : decode cX5_append 58 = .ok (.iadd, 1) := by decide +kernel
theorem dX5_append_59 : decode cX5_append 59 = .ok (.putfield 82, 3) := by decide +kernel
theorem dX5_append_62 : decode cX5_append 62 = .ok (.aload_n 0, 1) := by decide +kernel
theorem dX5_append_63 : decode cX5_append 63 = .ok (.getfield 82, 3) := by decide +kernel
theorem dX5_append_66 : decode cX5_append 66 = .ok (.ireturn, 1) := by decide +kernel
theorem dX5_clearText_0 : decode cX5_clearText 0 = .ok (.aload_n 0, 1) := by decide +kernel
theorem dX5_clearText_1 : decode cX5_clearText 1 = .ok (.iconst 0, 1) := by decide +kernel
theorem dX5_clearText_2 : decode cX5_clearText 2 = .ok (.putfield 38, 3) := by decide +kernel
theorem dX5_clearText_5 : decode cX5_clearText 5 = .ok (.aload_n 0, 1) := by decide +kernel
theorem dX5_clearText_6 : decode cX5_clearText 6 = .ok (.getfield 82, 3) := by decide +kernel
theorem dX5_clearText_9 : decode cX5_clearText 9 = .ok (.istore_n 1, 1) := by decide +kernel
theorem dX5_clearText_10 : decode cX5_clearText 10 = .ok (.aload_n 0, 1) := by decide +kernel
theorem dX5_clearText_11 : decode cX5_clearText 11 = .ok (.iconst 0, 1) := by decide +kernel
theorem dX5_clearText_12 : decode cX5_clearText 12 = .ok (.putfield 82, 3) := by decide +kernel
theorem dX5_clearText_15 : decode cX5_clearText 15 = .ok (.iload_n 1, 1) := by decide +kernel
theorem dX5_clearText_16 : decode cX5_clearText 16 = .ok (.ireturn, 1) := by decide +kernel
set_option maxRecDepth 20000 in
theorem ggX5_digit_X5_within : GoodIn wsX5_digit wsX5_within := goodIn_r _ [6] (by decide +kernel) (by decide +kernel)
set_option maxRecDepth 20000 in
theorem gX5_digit_X5_within : GoodIn wsX5_digit (va_wsS RX5 42 yX5_within wsX5_within) := goodIn_app (goodIn_of _ (by decide +kernel)) ggX5_digit_X5_within
theorem dX5_digit_0 : decode cX5_digit 0 = .ok (.iload_n 1, 1) := by decide +kernel
theorem dX5_digit_1 : decode cX5_digit 1 = .ok (.aload_n 0, 1) := by decide +kernel
theorem dX5_digit_2 : decode cX5_digit 2 = .ok (.getfield 82, 3) := by decide +kernel
theorem dX5_digit_5 : decode cX5_digit 5 = .ok (.if_icmp .ge 31, 3) := by decide +kernel
theorem dX5_digit_8 : decode cX5_digit 8 = .ok (.aload_n 0, 1) := by decide +kernel
theorem dX5_digit_9 : decode cX5_digit 9 = .ok (.getfield 25, 3) := by decide +kernel
theorem dX5_digit_12 : decode cX5_digit 12 = .ok (.iload_n 1, 1) := by decide +kernel
theorem dX5_digit_13 : decode cX5_digit 13 = .ok (.iaload, 1) := by decide +kernel
theorem dX5_digit_14 : decode cX5_digit 14 = .ok (.bipush 48, 2) := by decide +kernel
theorem dX5_digit_16 : decode cX5_digit 16 = .ok (.bipush 57, 2) := by decide +kernel
theorem dX5_digit_18 : decode cX5_digit 18 = .ok (.invokestatic 42, 3) := by decide +kernel
theorem dX5_digit_21 : decode cX5_digit 21 = .ok (.ifCond .eq 15, 3) := by decide +kernel
theorem dX5_digit_24 : decode cX5_digit 24 = .ok (.aload_n 0, 1) := by decide +kernel
theorem dX5_digit_25 : decode cX5_digit 25 = .ok (.getfield 25, 3) := by decide +kernel
theorem dX5_digit_28 : decode cX5_digit 28 = .ok (.iload_n 1, 1) := by decide +kernel
theorem dX5_digit_29 : decode cX5_digit 29 = .ok (.iaload, 1) := by decide +kernel
theorem dX5_digit_30 : decode cX5_digit 30 = .ok (.bipush 48, 2) := by decide +kernel
theorem dX5_digit_32 : decode cX5_digit 32 = .ok (.isub, 1) := by decide +kernel
theorem dX5_digit_33 : decode cX5_digit 33 = .ok (.goto 4, 3) := by decide +kernel
theorem dX5_digit_36 : decode cX5_digit 36 = .ok (.iconst (-1), 1) := by decide +kernel
theorem dX5_digit_37 : decode cX5_digit 37 = .ok (.ireturn, 1) := by decide +kernel
set_option maxRecDepth 20000 in
theorem ggX5_number_X5_digit : GoodIn wsX5_number wsX5_digit := goodIn_r _ [5, 6, 7, 8, 9, 4, 10, 11, 12, 13, 14, 15, 16, 17, 18, 19, 20, 21] (by decide +kernel) (by decide +kernel)
set_option maxRecDepth 20000 in
theorem gX5_number_X5_digit : GoodIn wsX5_number (wsV RX5 85 RX5 yX5_digit wsX5_digit) := goodIn_app (goodIn_of _ (by decide +kernel)) ggX5_number_X5_digit
theorem dX5_number_0 : decode cX5_number 0 = .ok (.bipush 10, 2) := by decide +kernel
theorem dX5_number_2 : decode cX5_number 2 = .ok (.aload_n 0, 1) := by decide +kernel
theorem dX5_number_3 : decode cX5_number 3 = .ok (.iload_n 1, 1) := by decide +kernel
theorem dX5_number_4 : decode cX5_number 4 = .ok (.invokevirtual 85, 3) := by decide +kernel
theorem dX5_number_7 : decode cX5_number 7 = .ok (.imul, 1) := by decide +kernel
theorem dX5_number_8 : decode cX5_number 8 = .ok (.aload_n 0, 1) := by decide +kernel
theorem dX5_number_9 : decode cX5_number 9 = .ok (.iload_n 1, 1) := by decide +kernel
theorem dX5_number_10 : decode cX5_number 10 = .ok (.iconst 1, 1) := by decide +kernel
theorem dX5_number_11 : decode cX5_number 11 = .ok (.iadd, 1) := by decide +kernel
theorem dX5_number_12 : decode cX5_number 12 = .ok (.invokevirtual 85, 3) := by decide +kernel
theorem dX5_number_15 : decode cX5_number 15 = .ok (.iadd, 1) := by decide +kernel
theorem dX5_number_16 : decode cX5_number 16 = .ok (.ireturn, 1) := by decide +kernel
set_option maxRecDepth 20000 in
theorem ggX5_wrongIn_X5_digit : GoodIn wsX5_wrongIn wsX5_digit := goodIn_r _ [5, 6, 7, 8, 9, 4, 10, 15, 16, 17, 18, 19, 20, 21, 22, 23, 24, 25] (by decide +kernel) (by decide +kernel)
set_option maxRecDepth 20000 in
theorem gX5_wrongIn_X5_digit : GoodIn wsX5_wrongIn (wsV RX5 85 RX5 yX5_digit wsX5_digit) := goodIn_app (goodIn_of _ (by decide +kernel)) ggX5_wrongIn_X5_digit
set_option maxRecDepth 20000 in
theorem ggX5_wrongIn_X5_number : GoodIn wsX5_wrongIn wsX5_number := goodIn_r _ [14, 1, 2, 3, 4, 5, 6, 7, 8, 9, 10, 15, 16, 17, 18, 19, 20, 21, 22, 23, 24, 25] (by decide +kernel) (by decide +kernel)
set_option maxRecDepth 20000 in
theorem gX5_wrongIn_X5_number : GoodIn wsX5_wrongIn (wsV RX5 88 RX5 yX5_number wsX5_number) := goodIn_app (goodIn_of _ (by decide +kernel)) ggX5_wrongIn_X5_number
set_option maxRecDepth 20000 in
theorem ggX5_wrongIn_X5_within : GoodIn wsX5_wrongIn wsX5_within := goodIn_r _ [10] (by decide +kernel) (by decide +kernel)
set_option maxRecDepth 20000 in
theorem gX5_wrongIn_X5_within : GoodIn wsX5_wrongIn (va_wsS RX5 42 yX5_within wsX5_within) := goodIn_app (goodIn_of _ (by decide +kernel)) ggX5_wrongIn_X5_within
theorem dX5_wrongIn_0 : decode cX5_wrongIn 0 = .ok (.aload_n 0, 1) := by decide +kernel
theorem dX5_wrongIn_1 : decode cX5_wrongIn 1 = .ok (.iload_n 1, 1) := by decide +kernel
theorem dX5_wrongIn_2 : decode cX5_wrongIn 2 = .ok (.invokevirtual 85, 3) := by decide +kernel
theorem dX5_wrongIn_5 : decode cX5_wrongIn 5 = .ok (.istore 4, 2) := by decide +kernel
theorem dX5_wrongIn_7 : decode cX5_wrongIn 7 = .ok (.iload 4, 2) := by decide +kernel
theorem dX5_wrongIn_9 : decode cX5_wrongIn 9 = .ok (.ifCond .lt 24, 3) := by decide +kernel
theorem dX5_wrongIn_12 : decode cX5_wrongIn 12 = .ok (.bipush 10, 2) := by decide +kernel
theorem dX5_wrongIn_14 : decode cX5_wrongIn 14 = .ok (.iload 4, 2) := by decide +kernel
theorem dX5_wrongIn_16 : decode cX5_wrongIn 16 = .ok (.imul, 1) := by decide +kernel
theorem dX5_wrongIn_17 : decode cX5_wrongIn 17 = .ok (.iload_n 3, 1) := by decide +kernel
theorem dX5_wrongIn_18 : decode cX5_wrongIn 18 = .ok (.if_icmp .gt 15, 3) := by decide +kernel
theorem dX5_wrongIn_21 : decode cX5_wrongIn 21 = .ok (.bipush 10, 2) := by decide +kernel
theorem dX5_wrongIn_23 : decode cX5_wrongIn 23 = .ok (.iload 4, 2) := by decide +kernel
theorem dX5_wrongIn_25 : decode cX5_wrongIn 25 = .ok (.imul, 1) := by decide +kernel
theorem dX5_wrongIn_26 : decode cX5_wrongIn 26 = .ok (.bipush 9, 2) := by decide +kernel
theorem dX5_wrongIn_28 : decode cX5_wrongIn 28 = .ok (.iadd, 1) := by decide +kernel
theorem dX5_wrongIn_29 : decode cX5_wrongIn 29 = .ok (.iload_n 2, 1) := by decide +kernel
theorem dX5_wrongIn_30 : decode cX5_wrongIn 30 = .ok (.if_icmp .ge 5, 3) := by decide +kernel
theorem dX5_wrongIn_33 : decode cX5_wrongIn 33 = .ok (.iload_n 1, 1) := by decide +kernel
theorem dX5_wrongIn_34 : decode cX5_wrongIn 34 = .ok (.ireturn, 1) := by decide +kernel
theorem dX5_wrongIn_35 : decode cX5_wrongIn 35 = .ok (.aload_n 0, 1) := by decide +kernel
theorem dX5_wrongIn_36 : decode cX5_wrongIn 36 = .ok (.iload_n 1, 1) := by decide +kernel
theorem dX5_wrongIn_37 : decode cX5_wrongIn 37 = .ok (.iconst 1, 1) := by decide +kernel
theorem dX5_wrongIn_38 : decode cX5_wrongIn 38 = .ok (.iadd, 1) := by decide +kernel
theorem dX5_wrongIn_39 : decode cX5_wrongIn 39 = .ok (.invokevirtual 85, 3) := by decide +kernel
theorem dX5_wrongIn_42 : decode cX5_wrongIn 42 = .ok (.ifCond .lt 20, 3) := by decide +kernel
theorem dX5_wrongIn_45 : decode cX5_wrongIn 45 = .ok (.aload_n 0, 1) := by decide +kernel
theorem dX5_wrongIn_46 : decode cX5_wrongIn 46 = .ok (.iload_n 1, 1) := by decide +kernel
theorem dX5_wrongIn_47 : decode cX5_wrongIn 47 = .ok (.invokevirtual 88, 3) := by decide +kernel
theorem dX5_wrongIn_50 : decode cX5_wrongIn 50 = .ok (.iload_n 2, 1) := by decide +kernel
theorem dX5_wrongIn_51 : decode cX5_wrongIn 51 = .ok (.iload_n 3, 1) := by decide +kernel
theorem dX5_wrongIn_52 : decode cX5_wrongIn 52 = .ok (.invokestatic 42, 3) := by decide +kernel
theorem dX5_wrongIn_55 : decode cX5_wrongIn 55 = .ok (.ifCond .eq 7, 3) := by decide +kernel
theorem dX5_wrongIn_58 : decode cX5_wrongIn 58 = .ok (.iconst (-1), 1) := by decide +kernel
theorem dX5_wrongIn_59 : decode cX5_wrongIn 59 = .ok (.goto 6, 3) := by decide +kernel
theorem dX5_wrongIn_62 : decode cX5_wrongIn 62 = .ok (.iload_n 1, 1) := by decide +kernel
theorem dX5_wrongIn_63 : decode cX5_wrongIn 63 = .ok (.iconst 1, 1) := by decide +kernel
theorem dX5_wrongIn_64 : decode cX5_wrongIn 64 = .ok (.iadd, 1) := by decide +kernel
theorem dX5_wrongIn_65 : decode cX5_wrongIn 65 = .ok (.ireturn, 1) := by decide +kernel
set_option maxRecDepth 20000 in
theorem ggX5_wrongCommand_X5_wrongIn : GoodIn wsX5_wrongCommand wsX5_wrongIn := goodIn_r _ [6, 7, 8, 9, 5, 10, 11, 1, 12, 13, 14, 15, 16, 17, 18, 19, 20, 21, 22, 23, 24, 25, 26, 27, 28, 29] (by decide +kernel) (by decide +kernel)
set_option maxRecDepth 20000 in
theorem gX5_wrongCommand_X5_wrongIn : GoodIn wsX5_wrongCommand (wsV RX5 91 RX5 yX5_wrongIn wsX5_wrongIn) := goodIn_app (goodIn_of _ (by decide +kernel)) ggX5_wrongCommand_X5_wrongIn
set_option maxRecDepth 20000 in
theorem ggX5_wrongCommand_X5_number : GoodIn wsX5_wrongCommand wsX5_number := goodIn_r _ [18, 7, 8, 9, 5, 10, 11, 1, 12, 13, 14, 19, 20, 21, 22, 23, 24, 25, 26, 27, 28, 29] (by decide +kernel) (by decide +kernel)
set_option maxRecDepth 20000 in
theorem gX5_wrongCommand_X5_number : GoodIn wsX5_wrongCommand (wsV RX5 88 RX5 yX5_number wsX5_number) := goodIn_app (goodIn_of _ (by decide +kernel)) ggX5_wrongCommand_X5_number
set_option maxRecDepth 20000 in
theorem ggX5_wrongCommand_X5_digit : GoodIn wsX5_wrongCommand wsX5_digit := goodIn_r _ [10, 11, 1, 12, 13, 5, 14, 19, 20, 21, 22, 23, 24, 25, 26, 27, 28, 29] (by decide +kernel) (by decide +kernel)
set_option maxRecDepth 20000 in
theorem gX5_wrongCommand_X5_digit : GoodIn wsX5_wrongCommand (wsV RX5 85 RX5 yX5_digit wsX5_digit) := goodIn_app (goodIn_of _ (by decide +kernel)) ggX5_wrongCommand_X5_digit
set_option maxRecDepth 20000 in
theorem ggX5_wrongCommand_X5_within : GoodIn wsX5_wrongCommand wsX5_within := goodIn_r _ [14] (by decide +kernel) (by decide +kernel)
set_option maxRecDepth 20000 in
theorem gX5_wrongCommand_X5_within : GoodIn wsX5_wrongCommand (va_wsS RX5 42 yX5_within wsX5_within) := goodIn_app (goodIn_of _ (by decide +kernel)) ggX5_wrongCommand_X5_within
theorem dX5_wrongCommand_0 : decode cX5_wrongCommand 0 = .ok (.aload_n 0, 1) := by decide +kernel
theorem dX5_wrongCommand_1 : decode cX5_wrongCommand 1 = .ok (.getfield 25, 3) := by decide +kernel
theorem dX5_wrongCommand_4 : decode cX5_wrongCommand 4 = .ok (.iload_n 1, 1) := by decide +kernel
theorem dX5_wrongCommand_5 : decode cX5_wrongCommand 5 = .ok (.iaload, 1) := by decide +kernel
theorem dX5_wrongCommand_6 : decode cX5_wrongCommand 6 = .ok (.istore_n 3, 1) := by decide +kernel
theorem dX5_wrongCommand_7 : decode cX5_wrongCommand 7 = .ok (.iload_n 3, 1) := by decide +kernel
theorem dX5_wrongCommand_8 : decode cX5_wrongCommand 8 = .ok (.bipush 107, 2) := by decide +kernel
theorem dX5_wrongCommand_10 : decode cX5_wrongCommand 10 = .ok (.if_icmp .ne 15, 3) := by decide +kernel
theorem dX5_wrongCommand_13 : decode cX5_wrongCommand 13 = .ok (.aload_n 0, 1) := by decide +kernel
theorem dX5_wrongCommand_14 : decode cX5_wrongCommand 14 = .ok (.iload_n 1, 1) := by decide +kernel
theorem dX5_wrongCommand_15 : decode cX5_wrongCommand 15 = .ok (.iconst 1, 1) := by decide +kernel
theorem dX5_wrongCommand_16 : decode cX5_wrongCommand 16 = .ok (.iadd, 1) := by decide +kernel
theorem dX5_wrongCommand_17 : decode cX5_wrongCommand 17 = .ok (.iconst 0, 1) := by decide +kernel
theorem dX5_wrongCommand_18 : decode cX5_wrongCommand 18 = .ok (.iload_n 2, 1) := by decide +kernel
theorem dX5_wrongCommand_19 : decode cX5_wrongCommand 19 = .ok (.iconst 1, 1) := by decide +kernel
theorem dX5_wrongCommand_20 : decode cX5_wrongCommand 20 = .ok (.isub, 1) := by decide +kernel
theorem dX5_wrongCommand_21 : decode cX5_wrongCommand 21 = .ok (.invokevirtual 91, 3) := by decide +kernel
theorem dX5_wrongCommand_24 : decode cX5_wrongCommand 24 = .ok (.ireturn, 1) := by decide +kernel
theorem dX5_wrongCommand_25 : decode cX5_wrongCommand 25 = .ok (.iload_n 3, 1) := by decide +kernel
theorem dX5_wrongCommand_26 : decode cX5_wrongCommand 26 = .ok (.bipush 113, 2) := by decide +kernel
theorem dX5_wrongCommand_28 : decode cX5_wrongCommand 28 = .ok (.if_icmp .ne 45, 3) := by decide +kernel
theorem dX5_wrongCommand_31 : decode cX5_wrongCommand 31 = .ok (.aload_n 0, 1) := by decide +kernel
theorem dX5_wrongCommand_32 : decode cX5_wrongCommand 32 = .ok (.iload_n 1, 1) := by decide +kernel
theorem dX5_wrongCommand_33 : decode cX5_wrongCommand 33 = .ok (.iconst 1, 1) := by decide +kernel
theorem dX5_wrongCommand_34 : decode cX5_wrongCommand 34 = .ok (.iadd, 1) := by decide +kernel
theorem dX5_wrongCommand_35 : decode cX5_wrongCommand 35 = .ok (.iconst 0, 1) := by decide +kernel
theorem dX5_wrongCommand_36 : decode cX5_wrongCommand 36 = .ok (.iload_n 2, 1) := by decide +kernel
theorem dX5_wrongCommand_37 : decode cX5_wrongCommand 37 = .ok (.iconst 1, 1) := by decide +kernel
theorem dX5_wrongCommand_38 : decode cX5_wrongCommand 38 = .ok (.isub, 1) := by decide +kernel
theorem dX5_wrongCommand_39 : decode cX5_wrongCommand 39 = .ok (.invokevirtual 91, 3) := by decide +kernel
theorem dX5_wrongCommand_42 : decode cX5_wrongCommand 42 = .ok (.istore 4, 2) := by decide +kernel
theorem dX5_wrongCommand_44 : decode cX5_wrongCommand 44 = .ok (.iload 4, 2) := by decide +kernel
theorem dX5_wrongCommand_46 : decode cX5_wrongCommand 46 = .ok (.iconst (-1), 1) := by decide +kernel
theorem dX5_wrongCommand_47 : decode cX5_wrongCommand 47 = .ok (.if_icmp .eq 8, 3) := by decide +kernel
theorem dX5_wrongCommand_50 : decode cX5_wrongCommand 50 = .ok (.iload 4, 2) := by decide +kernel
theorem dX5_wrongCommand_52 : decode cX5_wrongCommand 52 = .ok (.goto 20, 3) := by decide +kernel
theorem dX5_wrongCommand_55 : decode cX5_wrongCommand 55 = .ok (.aload_n 0, 1) := by decide +kernel
theorem dX5_wrongCommand_56 : decode cX5_wrongCommand 56 = .ok (.iload_n 1, 1) := by decide +kernel
theorem dX5_wrongCommand_57 : decode cX5_wrongCommand 57 = .ok (.iconst 3, 1) := by decide +kernel
theorem dX5_wrongCommand_58 : decode cX5_wrongCommand 58 = .ok (.iadd, 1) := by decide +kernel
theorem dX5_wrongCommand_59 : decode cX5_wrongCommand 59 = .ok (.aload_n 0, 1) := by decide +kernel
theorem dX5_wrongCommand_60 : decode cX5_wrongCommand 60 = .ok (.iload_n 1, 1) := by decide +kernel
theorem dX5_wrongCommand_61 : decode cX5_wrongCommand 61 = .ok (.iconst 1, 1) := by decide +kernel
theorem dX5_wrongCommand_62 : decode cX5_wrongCommand 62 = .ok (.iadd, 1) := by decide +kernel
theorem dX5_wrongCommand_63 : decode cX5_wrongCommand 63 = .ok (.invokevirtual 88, 3) := by decide +kernel
theorem dX5_wrongCommand_66 : decode cX5_wrongCommand 66 = .ok (.iload_n 2, 1) := by decide +kernel
theorem dX5_wrongCommand_67 : decode cX5_wrongCommand 67 = .ok (.iconst 1, 1) := by decide +kernel
theorem dX5_wrongCommand_68 : decode cX5_wrongCommand 68 = .ok (.isub, 1) := by decide +kernel
theorem dX5_wrongCommand_69 : decode cX5_wrongCommand 69 = .ok (.invokevirtual 91, 3) := by decide +kernel
theorem dX5_wrongCommand_72 : decode cX5_wrongCommand 72 = .ok (.ireturn, 1) := by decide +kernel
theorem dX5_wrongCommand_73 : decode cX5_wrongCommand 73 = .ok (.iload_n 3, 1) := by decide +kernel
theorem dX5_wrongCommand_74 : decode cX5_wrongCommand 74 = .ok (.bipush 119, 2) := by decide +kernel
theorem dX5_wrongCommand_76 : decode cX5_wrongCommand 76 = .ok (.if_icmp .ne 27, 3) := by decide +kernel
theorem dX5_wrongCommand_79 : decode cX5_wrongCommand 79 = .ok (.aload_n 0, 1) := by decide +kernel
theorem dX5_wrongCommand_80 : decode cX5_wrongCommand 80 = .ok (.iload_n 1, 1) := by decide +kernel
theorem dX5_wrongCommand_81 : decode cX5_wrongCommand 81 = .ok (.iconst 1, 1) := by decide +kernel
theorem dX5_wrongCommand_82 : decode cX5_wrongCommand 82 = .ok (.iadd, 1) := by decide +kernel
theorem dX5_wrongCommand_83 : decode cX5_wrongCommand 83 = .ok (.invokevirtual 85, 3) := by decide +kernel
theorem dX5_wrongCommand_86 : decode cX5_wrongCommand 86 = .ok (.iconst 1, 1) := by decide +kernel
theorem dX5_wrongCommand_87 : decode cX5_wrongCommand 87 = .ok (.bipush 8, 2) := by decide +kernel
theorem dX5_wrongCommand_89 : decode cX5_wrongCommand 89 = .ok (.invokestatic 42, 3) := by decide +kernel
theorem dX5_wrongCommand_92 : decode cX5_wrongCommand 92 = .ok (.ifCond .eq 7, 3) := by decide +kernel
theorem dX5_wrongCommand_95 : decode cX5_wrongCommand 95 = .ok (.iconst (-1), 1) := by decide +kernel
theorem dX5_wrongCommand_96 : decode cX5_wrongCommand 96 = .ok (.goto 6, 3) := by decide +kernel
theorem dX5_wrongCommand_99 : decode cX5_wrongCommand 99 = .ok (.iload_n 1, 1) := by decide +kernel
theorem dX5_wrongCommand_100 : decode cX5_wrongCommand 100 = .ok (.iconst 1, 1) := by decide +kernel
theorem dX5_wrongCommand_101 : decode cX5_wrongCommand 101 = .ok (.iadd, 1) := by decide +kernel
theorem dX5_wrongCommand_102 : decode cX5_wrongCommand 102 = .ok (.ireturn, 1) := by decide +kernel
theorem dX5_wrongCommand_103 : decode cX5_wrongCommand 103 = .ok (.iload_n 3, 1) := by decide +kernel
theorem dX5_wrongCommand_104 : decode cX5_wrongCommand 104 = .ok (.bipush 115, 2) := by decide +kernel
theorem dX5_wrongCommand_106 : decode cX5_wrongCommand 106 = .ok (.if_icmp .ne 26, 3) := by decide +kernel
theorem dX5_wrongCommand_109 : decode cX5_wrongCommand 109 = .ok (.aload_n 0, 1) := by decide +kernel
theorem dX5_wrongCommand_110 : decode cX5_wrongCommand 110 = .ok (.iload_n 1, 1) := by decide +kernel
theorem dX5_wrongCommand_111 : decode cX5_wrongCommand 111 = .ok (.iconst 1, 1) := by decide +kernel
theorem dX5_wrongCommand_112 : decode cX5_wrongCommand 112 = .ok (.iadd, 1) := by decide +kernel
theorem dX5_wrongCommand_113 : decode cX5_wrongCommand 113 = .ok (.invokevirtual 85, 3) := by decide +kernel
theorem dX5_wrongCommand_116 : decode cX5_wrongCommand 116 = .ok (.iconst 0, 1) := by decide +kernel
theorem dX5_wrongCommand_117 : decode cX5_wrongCommand 117 = .ok (.iconst 4, 1) := by decide +kernel
theorem dX5_wrongCommand_118 : decode cX5_wrongCommand 118 = .ok (.invokestatic 42, 3) := by decide +kernel
theorem dX5_wrongCommand_121 : decode cX5_wrongCommand 121 = .ok (.ifCond .eq 7, 3) := by decide +kernel
theorem dX5_wrongCommand_124 : decode cX5_wrongCommand 124 = .ok (.iconst (-1), 1) := by decide +kernel
theorem dX5_wrongCommand_125 : decode cX5_wrongCommand 125 = .ok (.goto 6, 3) := by decide +kernel
theorem dX5_wrongCommand_128 : decode cX5_wrongCommand 128 = .ok (.iload_n 1, 1) := by decide +kernel
theorem dX5_wrongCommand_129 : decode cX5_wrongCommand 129 = .ok (.iconst 1, 1) := by decide +kernel
theorem dX5_wrongCommand_130 : decode cX5_wrongCommand 130 = .ok (.iadd, 1) := by decide +kernel
theorem dX5_wrongCommand_131 : decode cX5_wrongCommand 131 = .ok (.ireturn, 1) := by decide +kernel
theorem dX5_wrongCommand_132 : decode cX5_wrongCommand 132 = .ok (.iload_n 3, 1) := by decide +kernel
theorem dX5_wrongCommand_133 : decode cX5_wrongCommand 133 = .ok (.bipush 102, 2) := by decide +kernel
theorem dX5_wrongCommand_135 : decode cX5_wrongCommand 135 = .ok (.if_icmp .eq 7, 3) := by decide +kernel
theorem dX5_wrongCommand_138 : decode cX5_wrongCommand 138 = .ok (.iload_n 1, 1) := by decide +kernel
theorem dX5_wrongCommand_139 : decode cX5_wrongCommand 139 = .ok (.goto 20, 3) := by decide +kernel
theorem dX5_wrongCommand_142 : decode cX5_wrongCommand 142 = .ok (.aload_n 0, 1) := by decide +kernel
theorem dX5_wrongCommand_143 : decode cX5_wrongCommand 143 = .ok (.iload_n 1, 1) := by decide +kernel
theorem dX5_wrongCommand_144 : decode cX5_wrongCommand 144 = .ok (.iconst 1, 1) := by decide +kernel
theorem dX5_wrongCommand_145 : decode cX5_wrongCommand 145 = .ok (.iadd, 1) := by decide +kernel
theorem dX5_wrongCommand_146 : decode cX5_wrongCommand 146 = .ok (.invokevirtual 85, 3) := by decide +kernel
theorem dX5_wrongCommand_149 : decode cX5_wrongCommand 149 = .ok (.ifCond .lt 7, 3) := by decide +kernel
theorem dX5_wrongCommand_152 : decode cX5_wrongCommand 152 = .ok (.iconst (-1), 1) := by decide +kernel
theorem dX5_wrongCommand_153 : decode cX5_wrongCommand 153 = .ok (.goto 6, 3) := by decide +kernel
theorem dX5_wrongCommand_156 : decode cX5_wrongCommand 156 = .ok (.iload_n 1, 1) := by decide +kernel
theorem dX5_wrongCommand_157 : decode cX5_wrongCommand 157 = .ok (.iconst 1, 1) := by decide +kernel
theorem dX5_wrongCommand_158 : decode cX5_wrongCommand 158 = .ok (.iadd, 1) := by decide +kernel
theorem dX5_wrongCommand_159 : decode cX5_wrongCommand 159 = .ok (.ireturn, 1) := by decide +kernel
theorem dX5_lengthAt_0 : decode cX5_lengthAt 0 = .ok (.aload_n 0, 1) := by decide +kernel
theorem dX5_lengthAt_1 : decode cX5_lengthAt 1 = .ok (.getfield 25, 3) := by decide +kernel
theorem dX5_lengthAt_4 : decode cX5_lengthAt 4 = .ok (.iload_n 1, 1) := by decide +kernel
theorem dX5_lengthAt_5 : decode cX5_lengthAt 5 = .ok (.iaload, 1) := by decide +kernel
theorem dX5_lengthAt_6 : decode cX5_lengthAt 6 = .ok (.bipush 107, 2) := by decide +kernel
theorem dX5_lengthAt_8 : decode cX5_lengthAt 8 = .ok (.if_icmp .ne 7, 3) := by decide +kernel
theorem dX5_lengthAt_11 : decode cX5_lengthAt 11 = .ok (.iconst 3, 1) := by decide +kernel
theorem dX5_lengthAt_12 : decode cX5_lengthAt 12 = .ok (.goto 19, 3) := by decide +kernel
theorem dX5_lengthAt_15 : decode cX5_lengthAt 15 = .ok (.aload_n 0, 1) := by decide +kernel
theorem dX5_lengthAt_16 : decode cX5_lengthAt 16 = .ok (.getfield 25, 3) := by decide +kernel
theorem dX5_lengthAt_19 : decode cX5_lengthAt 19 = .ok (.iload_n 1, 1) := by decide +kernel
theorem dX5_lengthAt_20 : decode cX5_lengthAt 20 = .ok (.iaload, 1) := by decide +kernel
theorem dX5_lengthAt_21 : decode cX5_lengthAt 21 = .ok (.bipush 113, 2) := by decide +kernel
theorem dX5_lengthAt_23 : decode cX5_lengthAt 23 = .ok (.if_icmp .ne 7, 3) := by decide +kernel
theorem dX5_lengthAt_26 : decode cX5_lengthAt 26 = .ok (.iconst 5, 1) := by decide +kernel
theorem dX5_lengthAt_27 : decode cX5_lengthAt 27 = .ok (.goto 4, 3) := by decide +kernel
theorem dX5_lengthAt_30 : decode cX5_lengthAt 30 = .ok (.iconst 2, 1) := by decide +kernel
theorem dX5_lengthAt_31 : decode cX5_lengthAt 31 = .ok (.ireturn, 1) := by decide +kernel
set_option maxRecDepth 20000 in
theorem ggX5_findError_X5_wrongIn : GoodIn wsX5_findError wsX5_wrongIn := goodIn_r _ [7, 8, 9, 10, 6, 11, 1, 2, 12, 13, 14, 15, 16, 17, 18, 27, 28, 29, 30, 31, 32, 33, 34, 35, 36, 37] (by decide +kernel) (by decide +kernel)
set_option maxRecDepth 20000 in
theorem gX5_findError_X5_wrongIn : GoodIn wsX5_findError (wsV RX5 91 RX5 yX5_wrongIn wsX5_wrongIn) := goodIn_app (goodIn_of _ (by decide +kernel)) ggX5_findError_X5_wrongIn
set_option maxRecDepth 20000 in
theorem ggX5_findError_X5_number : GoodIn wsX5_findError wsX5_number := goodIn_r _ [18, 8, 9, 10, 6, 11, 1, 2, 12, 13, 14, 27, 28, 29, 30, 31, 32, 33, 34, 35, 36, 37] (by decide +kernel) (by decide +kernel)
set_option maxRecDepth 20000 in
theorem gX5_findError_X5_number : GoodIn wsX5_findError (wsV RX5 88 RX5 yX5_number wsX5_number) := goodIn_app (goodIn_of _ (by decide +kernel)) ggX5_findError_X5_number
set_option maxRecDepth 20000 in
theorem ggX5_findError_X5_wrongCommand : GoodIn wsX5_findError wsX5_wrongCommand := goodIn_r _ [22, 2, 3, 4, 5, 6, 7, 8, 9, 10, 11, 1, 12, 13, 14, 15, 16, 17, 18, 27, 28, 29, 30, 31, 32, 33, 34, 35, 36, 37] (by decide +kernel) (by decide +kernel)
set_option maxRecDepth 20000 in
theorem gX5_findError_X5_wrongCommand : GoodIn wsX5_findError (wsV RX5 95 RX5 yX5_wrongCommand wsX5_wrongCommand) := goodIn_app (goodIn_of _ (by decide +kernel)) ggX5_findError_X5_wrongCommand
set_option maxRecDepth 20000 in
theorem ggX5_findError_X5_lengthAt : GoodIn wsX5_findError wsX5_lengthAt := goodIn_r _ [26, 2, 27, 28, 29, 30, 31, 32, 33, 34, 35, 36, 37] (by decide +kernel) (by decide +kernel)
set_option maxRecDepth 20000 in
theorem gX5_findError_X5_lengthAt : GoodIn wsX5_findError (wsV RX5 98 RX5 yX5_lengthAt wsX5_lengthAt) := goodIn_app (goodIn_of _ (by decide +kernel)) ggX5_findError_X5_lengthAt
theorem dX5_findError_0 : decode cX5_findError 0 = .ok (.aload_n 0, 1) := by decide +kernel
theorem dX5_findError_1 : decode cX5_findError 1 = .ok (.getfield 82, 3) := by decide +kernel
theorem dX5_findError_4 : decode cX5_findError 4 = .ok (.ifCond .eq 14, 3) := by decide +kernel
theorem dX5_findError_7 : decode cX5_findError 7 = .ok (.aload_n 0, 1) := by decide +kernel
theorem dX5_findError_8 : decode cX5_findError 8 = .ok (.getfield 25, 3) := by decide +kernel
theorem dX5_findError_11 : decode cX5_findError 11 = .ok (.iconst 0, 1) := by decide +kernel
theorem dX5_findError_12 : decode cX5_findError 12 = .ok (.iaload, 1) := by decide +kernel
theorem dX5_findError_13 : decode cX5_findError 13 = .ok (.bipush 75, 2) := by decide +kernel
theorem dX5_findError_15 : decode cX5_findError 15 = .ok (.if_icmp .eq 5, 3) := by decide +kernel
theorem dX5_findError_18 : decode cX5_findError 18 = .ok (.iconst 0, 1) := by decide +kernel
theorem dX5_findError_19 : decode cX5_findError 19 = .ok (.ireturn, 1) := by decide +kernel
theorem dX5_findError_20 : decode cX5_findError 20 = .ok (.aload_n 0, 1) := by decide +kernel
theorem dX5_findError_21 : decode cX5_findError 21 = .ok (.iconst 1, 1) := by decide +kernel
theorem dX5_findError_22 : decode cX5_findError 22 = .ok (.bipush 8, 2) := by decide +kernel
theorem dX5_findError_24 : decode cX5_findError 24 = .ok (.bipush 40, 2) := by decide +kernel
theorem dX5_findError_26 : decode cX5_findError 26 = .ok (.invokevirtual 91, 3) := by decide +kernel
theorem dX5_findError_29 : decode cX5_findError 29 = .ok (.istore_n 1, 1) := by decide +kernel
theorem dX5_findError_30 : decode cX5_findError 30 = .ok (.iconst 3, 1) := by decide +kernel
theorem dX5_findError_31 : decode cX5_findError 31 = .ok (.istore_n 2, 1) := by decide +kernel
theorem dX5_findError_32 : decode cX5_findError 32 = .ok (.iload_n 2, 1) := by decide +kernel
theorem dX5_findError_33 : decode cX5_findError 33 = .ok (.aload_n 0, 1) := by decide +kernel
theorem dX5_findError_34 : decode cX5_findError 34 = .ok (.getfield 82, 3) := by decide +kernel
theorem dX5_findError_37 : decode cX5_findError 37 = .ok (.if_icmp .ge 30, 3) := by decide +kernel
theorem dX5_findError_40 : decode cX5_findError 40 = .ok (.iload_n 1, 1) := by decide +kernel
theorem dX5_findError_41 : decode cX5_findError 41 = .ok (.iconst (-1), 1) := by decide +kernel
theorem dX5_findError_42 : decode cX5_findError 42 = .ok (.if_icmp .ne 25, 3) := by decide +kernel
theorem dX5_findError_45 : decode cX5_findError 45 = .ok (.aload_n 0, 1) := by decide +kernel
theorem dX5_findError_46 : decode cX5_findError 46 = .ok (.iload_n 2, 1) := by decide +kernel
theorem dX5_findError_47 : decode cX5_findError 47 = .ok (.aload_n 0, 1) := by decide +kernel
theorem dX5_findError_48 : decode cX5_findError 48 = .ok (.iconst 1, 1) := by decide +kernel
theorem dX5_findError_49 : decode cX5_findError 49 = .ok (.invokevirtual 88, 3) := by decide +kernel
theorem dX5_findError_52 : decode cX5_findError 52 = .ok (.invokevirtual 95, 3) := by decide +kernel
theorem dX5_findError_55 : decode cX5_findError 55 = .ok (.istore_n 1, 1) := by decide +kernel
theorem dX5_findError_56 : decode cX5_findError 56 = .ok (.iload_n 2, 1) := by decide +kernel
theorem dX5_findError_57 : decode cX5_findError 57 = .ok (.aload_n 0, 1) := by decide +kernel
theorem dX5_findError_58 : decode cX5_findError 58 = .ok (.iload_n 2, 1) := by decide +kernel
theorem dX5_findError_59 : decode cX5_findError 59 = .ok (.invokevirtual 98, 3) := by decide +kernel
theorem dX5_findError_62 : decode cX5_findError 62 = .ok (.iadd, 1) := by decide +kernel
theorem dX5_findError_63 : decode cX5_findError 63 = .ok (.istore_n 2, 1) := by decide +kernel
theorem dX5_findError_64 : decode cX5_findError 64 = .ok (.goto (-32), 3) := by decide +kernel
theorem dX5_findError_67 : decode cX5_findError 67 = .ok (.iload_n 1, 1) := by decide +kernel
theorem dX5_findError_68 : decode cX5_findError 68 = .ok (.ireturn, 1) := by decide +kernel
set_option maxRecDepth 20000 in
theorem ggX5_errorPosition_X5_findError : GoodIn wsX5_errorPosition wsX5_findError := goodIn_r _ [6, 7, 8, 9, 10, 11, 5, 12, 13, 14, 15, 16, 17, 18, 19, 20, 21, 22, 23, 24, 25, 26, 27, 28, 29, 30, 31, 32, 33, 34, 35, 36, 37, 38, 39, 40, 41, 42] (by decide +kernel) (by decide +kernel)
set_option maxRecDepth 20000 in
theorem gX5_errorPosition_X5_findError : GoodIn wsX5_errorPosition (wsV RX5 101 RX5 yX5_findError wsX5_findError) := goodIn_app (goodIn_of _ (by decide +kernel)) ggX5_errorPosition_X5_findError
theorem dX5_errorPosition_0 : decode cX5_errorPosition 0 = .ok (.aload_n 0, 1) := by decide +kernel
theorem dX5_errorPosition_1 : decode cX5_errorPosition 1 = .ok (.iconst 0, 1) := by decide +kernel
theorem dX5_errorPosition_2 : decode cX5_errorPosition 2 = .ok (.putfield 38, 3) := by decide +kernel
theorem dX5_errorPosition_5 : decode cX5_errorPosition 5 = .ok (.aload_n 0, 1) := by decide +kernel
theorem dX5_errorPosition_6 : decode cX5_errorPosition 6 = .ok (.invokevirtual 101, 3) := by decide +kernel
theorem dX5_errorPosition_9 : decode cX5_errorPosition 9 = .ok (.ireturn, 1) := by decide +kernel
set_option maxRecDepth 20000 in
theorem ggX5_load_X5_findError : GoodIn wsX5_load wsX5_findError := goodIn_r _ [10, 4, 5, 11, 12, 13, 9, 14, 15, 16, 17, 18, 19, 20, 21, 22, 23, 24, 25, 26, 27, 28, 29, 30, 31, 32, 33, 79, 80, 81, 82, 83, 84, 85, 86, 87, 88, 89] (by decide +kernel) (by decide +kernel)
set_option maxRecDepth 20000 in
theorem gX5_load_X5_findError : GoodIn wsX5_load (wsV RX5 101 RX5 yX5_findError wsX5_findError) := goodIn_app (goodIn_of _ (by decide +kernel)) ggX5_load_X5_findError
set_option maxRecDepth 20000 in
theorem ggX5_load_X5_number : GoodIn wsX5_load wsX5_number := goodIn_r _ [25, 15, 16, 17, 9, 18, 4, 5, 19, 20, 21, 79, 80, 81, 82, 83, 84, 85, 86, 87, 88, 89] (by decide +kernel) (by decide +kernel)
set_option maxRecDepth 20000 in
theorem gX5_load_X5_number : GoodIn wsX5_load (wsV RX5 88 RX5 yX5_number wsX5_number) := goodIn_app (goodIn_of _ (by decide +kernel)) ggX5_load_X5_number
set_option maxRecDepth 20000 in
theorem ggX5_load_X5_renew : GoodIn wsX5_load wsX5_renew := goodIn_r _ [37, 38, 79, 80, 81, 82, 83, 84, 85, 86, 87, 88, 89] (by decide +kernel) (by decide +kernel)
set_option maxRecDepth 20000 in
theorem gX5_load_X5_renew : GoodIn wsX5_load (wsV RX5 34 RX5 yX5_renew wsX5_renew) := goodIn_app (goodIn_of _ (by decide +kernel)) ggX5_load_X5_renew
set_option maxRecDepth 20000 in
theorem ggX5_load_X5_written : GoodIn wsX5_load wsX5_written := goodIn_r _ [42, 38, 43, 44, 45, 9, 46, 19, 20, 21, 47, 48, 49, 50, 79, 80, 81, 82, 83, 84, 85, 86, 87, 88, 89] (by decide +kernel) (by decide +kernel)
set_option maxRecDepth 20000 in
theorem gX5_load_X5_written : GoodIn wsX5_load (wsV RX5 108 RX5 yX5_written wsX5_written) := goodIn_app (goodIn_of _ (by decide +kernel)) ggX5_load_X5_written
set_option maxRecDepth 20000 in
theorem ggX5_load_X5_digit : GoodIn wsX5_load wsX5_digit := goodIn_r _ [18, 4, 5, 19, 20, 9, 21, 79, 80, 81, 82, 83, 84, 85, 86, 87, 88, 89] (by decide +kernel) (by decide +kernel)
set_option maxRecDepth 20000 in
theorem gX5_load_X5_digit : GoodIn wsX5_load (wsV RX5 85 RX5 yX5_digit wsX5_digit) := goodIn_app (goodIn_of _ (by decide +kernel)) ggX5_load_X5_digit
set_option maxRecDepth 20000 in
theorem ggX5_load_X5_changed : GoodIn wsX5_load wsX5_changed := goodIn_r _ [54, 38, 55, 56, 57, 9, 58, 79, 80, 81, 82, 83, 84, 85, 86, 87, 88, 89] (by decide +kernel) (by decide +kernel)
set_option maxRecDepth 20000 in
theorem gX5_load_X5_changed : GoodIn wsX5_load (wsV RX5 111 RX5 yX5_changed wsX5_changed) := goodIn_app (goodIn_of _ (by decide +kernel)) ggX5_load_X5_changed
set_option maxRecDepth 20000 in
theorem ggX5_load_X5_isWide : GoodIn wsX5_load wsX5_isWide := goodIn_r _ [62, 38, 79, 80, 81, 82, 83, 84, 85, 86, 87, 88, 89] (by decide +kernel) (by decide +kernel)
set_option maxRecDepth 20000 in
theorem gX5_load_X5_isWide : GoodIn wsX5_load (wsV RX5 114 RX5 yX5_isWide wsX5_isWide) := goodIn_app (goodIn_of _ (by decide +kernel)) ggX5_load_X5_isWide
set_option maxRecDepth 20000 in
theorem ggX5_load_X5_asked : GoodIn wsX5_load wsX5_asked := goodIn_r _ [66, 38, 67, 68, 69, 9, 70, 71, 72, 73, 74, 43, 44, 45, 46, 47, 48, 49, 50, 75, 76, 77, 78, 79, 80, 81, 82, 83, 84, 85, 86, 87, 88, 89] (by decide +kernel) (by decide +kernel)
set_option maxRecDepth 20000 in
theorem gX5_load_X5_asked : GoodIn wsX5_load (wsV RX5 118 RX5 yX5_asked wsX5_asked) := goodIn_app (goodIn_of _ (by decide +kernel)) ggX5_load_X5_asked
set_option maxRecDepth 20000 in
theorem ggX5_load_X5_lengthAt : GoodIn wsX5_load wsX5_lengthAt := goodIn_r _ [33, 5, 79, 80, 81, 82, 83, 84, 85, 86, 87, 88, 89] (by decide +kernel) (by decide +kernel)
set_option maxRecDepth 20000 in
theorem gX5_load_X5_lengthAt : GoodIn wsX5_load (wsV RX5 98 RX5 yX5_lengthAt wsX5_lengthAt) := goodIn_app (goodIn_of _ (by decide +kernel)) ggX5_load_X5_lengthAt
theorem dX5_load_0 : decode cX5_load 0 = .ok (.aload_n 0, 1) := by decide +kernel
theorem dX5_load_1 : decode cX5_load 1 = .ok (.aload_n 0, 1) := by decide +kernel
theorem dX5_load_2 : decode cX5_load 2 = .ok (.invokevirtual 101, 3) := by decide +kernel
theorem dX5_load_5 : decode cX5_load 5 = .ok (.iconst (-1), 1) := by decide +kernel
theorem dX5_load_6 : decode cX5_load 6 = .ok (.if_icmp .ne 7, 3) := by decide +kernel
theorem dX5_load_9 : decode cX5_load 9 = .ok (.iconst 0, 1) := by decide +kernel
theorem dX5_load_10 : decode cX5_load 10 = .ok (.goto 4, 3) := by decide +kernel
theorem dX5_load_13 : decode cX5_load 13 = .ok (.iconst 1, 1) := by decide +kernel
theorem dX5_load_14 : decode cX5_load 14 = .ok (.putfield 38, 3) := by decide +kernel
theorem dX5_load_17 : decode cX5_load 17 = .ok (.aload_n 0, 1) := by decide +kernel
theorem dX5_load_18 : decode cX5_load 18 = .ok (.getfield 38, 3) := by decide +kernel
theorem dX5_load_21 : decode cX5_load 21 = .ok (.ifCond .le 5, 3) := by decide +kernel
theorem dX5_load_24 : decode cX5_load 24 = .ok (.iconst 0, 1) := by decide +kernel
theorem dX5_load_25 : decode cX5_load 25 = .ok (.ireturn, 1) := by decide +kernel
theorem dX5_load_26 : decode cX5_load 26 = .ok (.aload_n 0, 1) := by decide +kernel
theorem dX5_load_27 : decode cX5_load 27 = .ok (.aload_n 0, 1) := by decide +kernel
theorem dX5_load_28 : decode cX5_load 28 = .ok (.iconst 1, 1) := by decide +kernel
theorem dX5_load_29 : decode cX5_load 29 = .ok (.invokevirtual 88, 3) := by decide +kernel
theorem dX5_load_32 : decode cX5_load 32 = .ok (.invokevirtual 34, 3) := by decide +kernel
theorem dX5_load_35 : decode cX5_load 35 = .ok (.aload_n 0, 1) := by decide +kernel
theorem dX5_load_36 : decode cX5_load 36 = .ok (.iconst 0, 1) := by decide +kernel
theorem dX5_load_37 : decode cX5_load 37 = .ok (.putfield 105, 3) := by decide +kernel
theorem dX5_load_40 : decode cX5_load 40 = .ok (.aload_n 0, 1) := by decide +kernel
theorem dX5_load_41 : decode cX5_load 41 = .ok (.getfield 22, 3) := by decide +kernel
theorem dX5_load_44 : decode cX5_load 44 = .ok (.iconst 0, 1) := by decide +kernel
theorem dX5_load_45 : decode cX5_load 45 = .ok (.iconst 0, 1) := by decide +kernel
theorem dX5_load_46 : decode cX5_load 46 = .ok (.iastore, 1) := by decide +kernel
theorem dX5_load_47 : decode cX5_load 47 = .ok (.aload_n 0, 1) := by decide +kernel
theorem dX5_load_48 : decode cX5_load 48 = .ok (.getfield 22, 3) := by decide +kernel
theorem dX5_load_51 : decode cX5_load 51 = .ok (.iconst 1, 1) := by decide +kernel
theorem dX5_load_52 : decode cX5_load 52 = .ok (.iconst 0, 1) := by decide +kernel
theorem dX5_load_53 : decode cX5_load 53 = .ok (.iastore, 1) := by decide +kernel
theorem dX5_load_54 : decode cX5_load 54 = .ok (.iconst 0, 1) := by decide +kernel
theorem dX5_load_55 : decode cX5_load 55 = .ok (.istore_n 1, 1) := by decide +kernel
theorem dX5_load_56 : decode cX5_load 56 = .ok (.iconst 3, 1) := by decide +kernel
theorem dX5_load_57 : decode cX5_load 57 = .ok (.istore_n 2, 1) := by decide +kernel
theorem dX5_load_58 : decode cX5_load 58 = .ok (.iload_n 2, 1) := by decide +kernel
theorem dX5_load_59 : decode cX5_load 59 = .ok (.aload_n 0, 1) := by decide +kernel
theorem dX5_load_60 : decode cX5_load 60 = .ok (.getfield 82, 3) := by decide +kernel
theorem dX5_load_63 : decode cX5_load 63 = .ok (.if_icmp .ge 131, 3) := by decide +kernel
theorem dX5_load_66 : decode cX5_load 66 = .ok (.aload_n 0, 1) := by decide +kernel
theorem dX5_load_67 : decode cX5_load 67 = .ok (.getfield 25, 3) := by decide +kernel
theorem dX5_load_70 : decode cX5_load 70 = .ok (.iload_n 2, 1) := by decide +kernel
theorem dX5_load_71 : decode cX5_load 71 = .ok (.iaload, 1) := by decide +kernel
theorem dX5_load_72 : decode cX5_load 72 = .ok (.istore_n 3, 1) := by decide +kernel
theorem dX5_load_73 : decode cX5_load 73 = .ok (.iload_n 3, 1) := by decide +kernel
theorem dX5_load_74 : decode cX5_load 74 = .ok (.bipush 107, 2) := by decide +kernel
theorem dX5_load_76 : decode cX5_load 76 = .ok (.if_icmp .ne 19, 3) := by decide +kernel
theorem dX5_load_79 : decode cX5_load 79 = .ok (.aload_n 0, 1) := by decide +kernel
theorem dX5_load_80 : decode cX5_load 80 = .ok (.aload_n 0, 1) := by decide +kernel
theorem dX5_load_81 : decode cX5_load 81 = .ok (.iload_n 2, 1) := by decide +kernel
theorem dX5_load_82 : decode cX5_load 82 = .ok (.iconst 1, 1) := by decide +kernel
theorem dX5_load_83 : decode cX5_load 83 = .ok (.iadd, 1) := by decide +kernel
theorem dX5_load_84 : decode cX5_load 84 = .ok (.invokevirtual 88, 3) := by decide +kernel
theorem dX5_load_87 : decode cX5_load 87 = .ok (.iconst 1, 1) := by decide +kernel
theorem dX5_load_88 : decode cX5_load 88 = .ok (.invokevirtual 108, 3) := by decide +kernel
theorem dX5_load_91 : decode cX5_load 91 = .ok (.pop, 1) := by decide +kernel
theorem dX5_load_92 : decode cX5_load 92 = .ok (.goto 91, 3) := by decide +kernel
theorem dX5_load_95 : decode cX5_load 95 = .ok (.iload_n 3, 1) := by decide +kernel
theorem dX5_load_96 : decode cX5_load 96 = .ok (.bipush 113, 2) := by decide +kernel
theorem dX5_load_98 : decode cX5_load 98 = .ok (.if_icmp .eq 39, 3) := by decide +kernel
theorem dX5_load_101 : decode cX5_load 101 = .ok (.aload_n 0, 1) := by decide +kernel
theorem dX5_load_102 : decode cX5_load 102 = .ok (.iload_n 3, 1) := by decide +kernel
theorem dX5_load_103 : decode cX5_load 103 = .ok (.bipush 119, 2) := by decide +kernel
theorem dX5_load_105 : decode cX5_load 105 = .ok (.if_icmp .ne 7, 3) := by decide +kernel
theorem dX5_load_108 : decode cX5_load 108 = .ok (.iconst 0, 1) := by decide +kernel
theorem dX5_load_109 : decode cX5_load 109 = .ok (.goto 14, 3) := by decide +kernel
theorem dX5_load_112 : decode cX5_load 112 = .ok (.iload_n 3, 1) := by decide +kernel
theorem dX5_load_113 : decode cX5_load 113 = .ok (.bipush 115, 2) := by decide +kernel
theorem dX5_load_115 : decode cX5_load 115 = .ok (.if_icmp .ne 7, 3) := by decide +kernel
theorem dX5_load_118 : decode cX5_load 118 = .ok (.iconst 1, 1) := by decide +kernel
theorem dX5_load_119 : decode cX5_load 119 = .ok (.goto 4, 3) := by decide +kernel
theorem dX5_load_122 : decode cX5_load 122 = .ok (.iconst 2, 1) := by decide +kernel
theorem dX5_load_123 : decode cX5_load 123 = .ok (.aload_n 0, 1) := by decide +kernel
theorem dX5_load_124 : decode cX5_load 124 = .ok (.iload_n 2, 1) := by decide +kernel
theorem dX5_load_125 : decode cX5_load 125 = .ok (.iconst 1, 1) := by decide +kernel
theorem dX5_load_126 : decode cX5_load 126 = .ok (.iadd, 1) := by decide +kernel
theorem dX5_load_127 : decode cX5_load 127 = .ok (.invokevirtual 85, 3) := by decide +kernel
theorem dX5_load_130 : decode cX5_load 130 = .ok (.invokevirtual 111, 3) := by decide +kernel
theorem dX5_load_133 : decode cX5_load 133 = .ok (.pop, 1) := by decide +kernel
theorem dX5_load_134 : decode cX5_load 134 = .ok (.goto 49, 3) := by decide +kernel
theorem dX5_load_137 : decode cX5_load 137 = .ok (.aload_n 0, 1) := by decide +kernel
theorem dX5_load_138 : decode cX5_load 138 = .ok (.aload_n 0, 1) := by decide +kernel
theorem dX5_load_139 : decode cX5_load 139 = .ok (.iload_n 2, 1) := by decide +kernel
theorem dX5_load_140 : decode cX5_load 140 = .ok (.iconst 1, 1) := by decide +kernel
theorem dX5_load_141 : decode cX5_load 141 = .ok (.iadd, 1) := by decide +kernel
theorem dX5_load_142 : decode cX5_load 142 = .ok (.invokevirtual 88, 3) := by decide +kernel
theorem dX5_load_145 : decode cX5_load 145 = .ok (.aload_n 0, 1) := by decide +kernel
theorem dX5_load_146 : decode cX5_load 146 = .ok (.iload_n 2, 1) := by decide +kernel
theorem dX5_load_147 : decode cX5_load 147 = .ok (.iconst 3, 1) := by decide +kernel
theorem dX5_load_148 : decode cX5_load 148 = .ok (.iadd, 1) := by decide +kernel
theorem dX5_load_149 : decode cX5_load 149 = .ok (.invokevirtual 88, 3) := by decide +kernel
theorem dX5_load_152 : decode cX5_load 152 = .ok (.invokevirtual 114, 3) := by decide +kernel
theorem dX5_load_155 : decode cX5_load 155 = .ok (.ifCond .eq 25, 3) := by decide +kernel
theorem dX5_load_158 : decode cX5_load 158 = .ok (.aload_n 0, 1) := by decide +kernel
theorem dX5_load_159 : decode cX5_load 159 = .ok (.aload_n 0, 1) := by decide +kernel
theorem dX5_load_160 : decode cX5_load 160 = .ok (.iload_n 2, 1) := by decide +kernel
theorem dX5_load_161 : decode cX5_load 161 = .ok (.iconst 1, 1) := by decide +kernel
theorem dX5_load_162 : decode cX5_load 162 = .ok (.iadd, 1) := by decide +kernel
theorem dX5_load_163 : decode cX5_load 163 = .ok (.invokevirtual 88, 3) := by decide +kernel
theorem dX5_load_166 : decode cX5_load 166 = .ok (.aload_n 0, 1) := by decide +kernel
theorem dX5_load_167 : decode cX5_load 167 = .ok (.iload_n 2, 1) := by decide +kernel
theorem dX5_load_168 : decode cX5_load 168 = .ok (.iconst 3, 1) := by decide +kernel
theorem dX5_load_169 : decode cX5_load 169 = .ok (.iadd, 1) := by decide +kernel
theorem dX5_load_170 : decode cX5_load 170 = .ok (.invokevirtual 88, 3) := by decide +kernel
theorem dX5_load_173 : decode cX5_load 173 = .ok (.invokevirtual 118, 3) := by decide +kernel
theorem dX5_load_176 : decode cX5_load 176 = .ok (.pop, 1) := by decide +kernel
theorem dX5_load_177 : decode cX5_load 177 = .ok (.goto 6, 3) := by decide +kernel
theorem dX5_load_180 : decode cX5_load 180 = .ok (.iinc 1 1, 3) := by decide +kernel
theorem dX5_load_183 : decode cX5_load 183 = .ok (.iload_n 2, 1) := by decide +kernel
theorem dX5_load_184 : decode cX5_load 184 = .ok (.aload_n 0, 1) := by decide +kernel
theorem dX5_load_185 : decode cX5_load 185 = .ok (.iload_n 2, 1) := by decide +kernel
theorem dX5_load_186 : decode cX5_load 186 = .ok (.invokevirtual 98, 3) := by decide +kernel
theorem dX5_load_189 : decode cX5_load 189 = .ok (.iadd, 1) := by decide +kernel
theorem dX5_load_190 : decode cX5_load 190 = .ok (.istore_n 2, 1) := by decide +kernel
theorem dX5_load_191 : decode cX5_load 191 = .ok (.goto (-133), 3) := by decide +kernel
theorem dX5_load_194 : decode cX5_load 194 = .ok (.iload_n 1, 1) := by decide +kernel
theorem dX5_load_195 : decode cX5_load 195 = .ok (.ireturn, 1) := by decide +kernel
set_option maxRecDepth 20000 in
theorem ggX5_about_X5_within : GoodIn wsX5_about wsX5_within := goodIn_r _ [7] (by decide +kernel) (by decide +kernel)
set_option maxRecDepth 20000 in
theorem gX5_about_X5_within : GoodIn wsX5_about (va_wsS RX5 42 yX5_within wsX5_within) := goodIn_app (goodIn_of _ (by decide +kernel)) ggX5_about_X5_within
set_option maxRecDepth 20000 in
theorem ggX5_about_X5_keysIn : GoodIn wsX5_about wsX5_keysIn := goodIn_r _ [11, 2, 36, 37, 38, 39, 40, 41, 42, 43, 44, 45, 46] (by decide +kernel) (by decide +kernel)
set_option maxRecDepth 20000 in
theorem gX5_about_X5_keysIn : GoodIn wsX5_about (wsV RX5 121 RX5 yX5_keysIn wsX5_keysIn) := goodIn_app (goodIn_of _ (by decide +kernel)) ggX5_about_X5_keysIn
set_option maxRecDepth 20000 in
theorem ggX5_about_X5_findBounds : GoodIn wsX5_about wsX5_findBounds := goodIn_r _ [15, 2, 3, 16, 17, 18, 6, 19, 20, 21, 22, 23, 24, 25, 36, 37, 38, 39, 40, 41, 42, 43, 44, 45, 46] (by decide +kernel) (by decide +kernel)
set_option maxRecDepth 20000 in
theorem gX5_about_X5_findBounds : GoodIn wsX5_about (wsV RX5 75 RX5 yX5_findBounds wsX5_findBounds) := goodIn_app (goodIn_of _ (by decide +kernel)) ggX5_about_X5_findBounds
set_option maxRecDepth 20000 in
theorem ggX5_about_X5_knownIn : GoodIn wsX5_about wsX5_knownIn := goodIn_r _ [29, 2, 30, 31, 6, 32, 33, 34, 35, 36, 37, 38, 39, 40, 41, 42, 43, 44, 45, 46] (by decide +kernel) (by decide +kernel)
set_option maxRecDepth 20000 in
theorem gX5_about_X5_knownIn : GoodIn wsX5_about (wsV RX5 124 RX5 yX5_knownIn wsX5_knownIn) := goodIn_app (goodIn_of _ (by decide +kernel)) ggX5_about_X5_knownIn
theorem dX5_about_0 : decode cX5_about 0 = .ok (.aload_n 0, 1) := by decide +kernel
theorem dX5_about_1 : decode cX5_about 1 = .ok (.iload_n 1, 1) := by decide +kernel
theorem dX5_about_2 : decode cX5_about 2 = .ok (.iconst 0, 1) := by decide +kernel
theorem dX5_about_3 : decode cX5_about 3 = .ok (.bipush 9, 2) := by decide +kernel
theorem dX5_about_5 : decode cX5_about 5 = .ok (.invokestatic 42, 3) := by decide +kernel
theorem dX5_about_8 : decode cX5_about 8 = .ok (.ifCond .eq 7, 3) := by decide +kernel
theorem dX5_about_11 : decode cX5_about 11 = .ok (.iconst 0, 1) := by decide +kernel
theorem dX5_about_12 : decode cX5_about 12 = .ok (.goto 4, 3) := by decide +kernel
theorem dX5_about_15 : decode cX5_about 15 = .ok (.iconst 1, 1) := by decide +kernel
theorem dX5_about_16 : decode cX5_about 16 = .ok (.putfield 38, 3) := by decide +kernel
theorem dX5_about_19 : decode cX5_about 19 = .ok (.iload_n 1, 1) := by decide +kernel
theorem dX5_about_20 : decode cX5_about 20 = .ok (.tableswitch 102 0 9 #[56, 63, 77, 77, 77, 77, 77, 77, 77, 88], 56) := by decide +kernel
theorem dX5_about_76 : decode cX5_about 76 = .ok (.aload_n 0, 1) := by decide +kernel
theorem dX5_about_77 : decode cX5_about 77 = .ok (.getfield 7, 3) := by decide +kernel
theorem dX5_about_80 : decode cX5_about 80 = .ok (.iconst 0, 1) := by decide +kernel
theorem dX5_about_81 : decode cX5_about 81 = .ok (.iaload, 1) := by decide +kernel
theorem dX5_about_82 : decode cX5_about 82 = .ok (.ireturn, 1) := by decide +kernel
theorem dX5_about_83 : decode cX5_about 83 = .ok (.aload_n 0, 1) := by decide +kernel
theorem dX5_about_84 : decode cX5_about 84 = .ok (.iconst 0, 1) := by decide +kernel
theorem dX5_about_85 : decode cX5_about 85 = .ok (.aload_n 0, 1) := by decide +kernel
theorem dX5_about_86 : decode cX5_about 86 = .ok (.getfield 7, 3) := by decide +kernel
theorem dX5_about_89 : decode cX5_about 89 = .ok (.iconst 0, 1) := by decide +kernel
theorem dX5_about_90 : decode cX5_about 90 = .ok (.iaload, 1) := by decide +kernel
theorem dX5_about_91 : decode cX5_about 91 = .ok (.iconst 1, 1) := by decide +kernel
theorem dX5_about_92 : decode cX5_about 92 = .ok (.isub, 1) := by decide +kernel
theorem dX5_about_93 : decode cX5_about 93 = .ok (.invokevirtual 121, 3) := by decide +kernel
theorem dX5_about_96 : decode cX5_about 96 = .ok (.ireturn, 1) := by decide +kernel
theorem dX5_about_97 : decode cX5_about 97 = .ok (.aload_n 0, 1) := by decide +kernel
theorem dX5_about_98 : decode cX5_about 98 = .ok (.getfield 7, 3) := by decide +kernel
theorem dX5_about_101 : decode cX5_about 101 = .ok (.iconst 1, 1) := by decide +kernel
theorem dX5_about_102 : decode cX5_about 102 = .ok (.iload_n 1, 1) := by decide +kernel
theorem dX5_about_103 : decode cX5_about 103 = .ok (.iadd, 1) := by decide +kernel
theorem dX5_about_104 : decode cX5_about 104 = .ok (.iconst 2, 1) := by decide +kernel
theorem dX5_about_105 : decode cX5_about 105 = .ok (.isub, 1) := by decide +kernel
theorem dX5_about_106 : decode cX5_about 106 = .ok (.iaload, 1) := by decide +kernel
theorem dX5_about_107 : decode cX5_about 107 = .ok (.ireturn, 1) := by decide +kernel
theorem dX5_about_108 : decode cX5_about 108 = .ok (.aload_n 0, 1) := by decide +kernel
theorem dX5_about_109 : decode cX5_about 109 = .ok (.iconst (-1), 1) := by decide +kernel
theorem dX5_about_110 : decode cX5_about 110 = .ok (.invokevirtual 75, 3) := by decide +kernel
theorem dX5_about_113 : decode cX5_about 113 = .ok (.aload_n 0, 1) := by decide +kernel
theorem dX5_about_114 : decode cX5_about 114 = .ok (.aload_n 0, 1) := by decide +kernel
theorem dX5_about_115 : decode cX5_about 115 = .ok (.getfield 28, 3) := by decide +kernel
theorem dX5_about_118 : decode cX5_about 118 = .ok (.invokevirtual 124, 3) := by decide +kernel
theorem dX5_about_121 : decode cX5_about 121 = .ok (.ireturn, 1) := by decide +kernel
theorem dX5_about_122 : decode cX5_about 122 = .ok (.iconst 0, 1) := by decide +kernel
theorem dX5_about_123 : decode cX5_about 123 = .ok (.ireturn, 1) := by decide +kernel
set_option maxRecDepth 20000 in
theorem ggX5_has_X5_isPlace : GoodIn wsX5_has wsX5_isPlace := goodIn_r _ [7, 2, 8, 9, 6, 10, 11, 12, 13, 14, 15, 16, 17, 18, 19, 20, 21] (by decide +kernel) (by decide +kernel)
set_option maxRecDepth 20000 in
theorem gX5_has_X5_isPlace : GoodIn wsX5_has (wsV RX5 68 RX5 yX5_isPlace wsX5_isPlace) := goodIn_app (goodIn_of _ (by decide +kernel)) ggX5_has_X5_isPlace
theorem dX5_has_0 : decode cX5_has 0 = .ok (.aload_n 0, 1) := by decide +kernel
theorem dX5_has_1 : decode cX5_has 1 = .ok (.aload_n 0, 1) := by decide +kernel
theorem dX5_has_2 : decode cX5_has 2 = .ok (.iload_n 1, 1) := by decide +kernel
theorem dX5_has_3 : decode cX5_has 3 = .ok (.invokevirtual 68, 3) := by decide +kernel
theorem dX5_has_6 : decode cX5_has 6 = .ok (.ifCond .eq 7, 3) := by decide +kernel
theorem dX5_has_9 : decode cX5_has 9 = .ok (.iconst 0, 1) := by decide +kernel
theorem dX5_has_10 : decode cX5_has 10 = .ok (.goto 4, 3) := by decide +kernel
theorem dX5_has_13 : decode cX5_has 13 = .ok (.iconst 1, 1) := by decide +kernel
theorem dX5_has_14 : decode cX5_has 14 = .ok (.putfield 38, 3) := by decide +kernel
theorem dX5_has_17 : decode cX5_has 17 = .ok (.aload_n 0, 1) := by decide +kernel
theorem dX5_has_18 : decode cX5_has 18 = .ok (.getfield 38, 3) := by decide +kernel
theorem dX5_has_21 : decode cX5_has 21 = .ok (.ifCond .ne 20, 3) := by decide +kernel
theorem dX5_has_24 : decode cX5_has 24 = .ok (.aload_n 0, 1) := by decide +kernel
theorem dX5_has_25 : decode cX5_has 25 = .ok (.getfield 7, 3) := by decide +kernel
theorem dX5_has_28 : decode cX5_has 28 = .ok (.bipush 8, 2) := by decide +kernel
theorem dX5_has_30 : decode cX5_has 30 = .ok (.iload_n 1, 1) := by decide +kernel
theorem dX5_has_31 : decode cX5_has 31 = .ok (.iadd, 1) := by decide +kernel
theorem dX5_has_32 : decode cX5_has 32 = .ok (.iaload, 1) := by decide +kernel
theorem dX5_has_33 : decode cX5_has 33 = .ok (.iconst 1, 1) := by decide +kernel
theorem dX5_has_34 : decode cX5_has 34 = .ok (.if_icmp .ne 7, 3) := by decide +kernel
theorem dX5_has_37 : decode cX5_has 37 = .ok (.iconst 1, 1) := by decide +kernel
theorem dX5_has_38 : decode cX5_has 38 = .ok (.goto 4, 3) := by decide +kernel
theorem dX5_has_41 : decode cX5_has 41 = .ok (.iconst 0, 1) := by decide +kernel
theorem dX5_has_42 : decode cX5_has 42 = .ok (.ireturn, 1) := by decide +kernel
set_option maxRecDepth 20000 in
theorem ggX5_isAnswer_X5_within : GoodIn wsX5_isAnswer wsX5_within := goodIn_r _ [5] (by decide +kernel) (by decide +kernel)
set_option maxRecDepth 20000 in
theorem gX5_isAnswer_X5_within : GoodIn wsX5_isAnswer (va_wsS RX5 42 yX5_within wsX5_within) := goodIn_app (goodIn_of _ (by decide +kernel)) ggX5_isAnswer_X5_within
theorem dX5_isAnswer_0 : decode cX5_isAnswer 0 = .ok (.iload_n 1, 1) := by decide +kernel
theorem dX5_isAnswer_1 : decode cX5_isAnswer 1 = .ok (.iconst 0, 1) := by decide +kernel
theorem dX5_isAnswer_2 : decode cX5_isAnswer 2 = .ok (.aload_n 0, 1) := by decide +kernel
theorem dX5_isAnswer_3 : decode cX5_isAnswer 3 = .ok (.getfield 7, 3) := by decide +kernel
theorem dX5_isAnswer_6 : decode cX5_isAnswer 6 = .ok (.iconst 4, 1) := by decide +kernel
theorem dX5_isAnswer_7 : decode cX5_isAnswer 7 = .ok (.iaload, 1) := by decide +kernel
theorem dX5_isAnswer_8 : decode cX5_isAnswer 8 = .ok (.iconst 1, 1) := by decide +kernel
theorem dX5_isAnswer_9 : decode cX5_isAnswer 9 = .ok (.isub, 1) := by decide +kernel
theorem dX5_isAnswer_10 : decode cX5_isAnswer 10 = .ok (.invokestatic 42, 3) := by decide +kernel
theorem dX5_isAnswer_13 : decode cX5_isAnswer 13 = .ok (.ireturn, 1) := by decide +kernel
set_option maxRecDepth 20000 in
theorem ggX5_answer_X5_isAnswer : GoodIn wsX5_answer wsX5_isAnswer := goodIn_r _ [6, 7, 8, 9, 5, 10, 15, 16, 17, 18, 19, 20, 21, 22, 23, 24, 25] (by decide +kernel) (by decide +kernel)
set_option maxRecDepth 20000 in
theorem gX5_answer_X5_isAnswer : GoodIn wsX5_answer (wsV RX5 128 RX5 yX5_isAnswer wsX5_isAnswer) := goodIn_app (goodIn_of _ (by decide +kernel)) ggX5_answer_X5_isAnswer
set_option maxRecDepth 20000 in
theorem ggX5_answer_X5_within : GoodIn wsX5_answer wsX5_within := goodIn_r _ [10] (by decide +kernel) (by decide +kernel)
set_option maxRecDepth 20000 in
theorem gX5_answer_X5_within : GoodIn wsX5_answer (va_wsS RX5 42 yX5_within wsX5_within) := goodIn_app (goodIn_of _ (by decide +kernel)) ggX5_answer_X5_within
set_option maxRecDepth 20000 in
theorem ggX5_answer_X5_answerPart : GoodIn wsX5_answer wsX5_answerPart := goodIn_r _ [14, 7, 15, 16, 17, 18, 19, 20, 21, 22, 23, 24, 25] (by decide +kernel) (by decide +kernel)
set_option maxRecDepth 20000 in
theorem gX5_answer_X5_answerPart : GoodIn wsX5_answer (wsV RX5 46 RX5 yX5_answerPart wsX5_answerPart) := goodIn_app (goodIn_of _ (by decide +kernel)) ggX5_answer_X5_answerPart
theorem dX5_answer_0 : decode cX5_answer 0 = .ok (.aload_n 0, 1) := by decide +kernel
theorem dX5_answer_1 : decode cX5_answer 1 = .ok (.aload_n 0, 1) := by decide +kernel
theorem dX5_answer_2 : decode cX5_answer 2 = .ok (.iload_n 1, 1) := by decide +kernel
theorem dX5_answer_3 : decode cX5_answer 3 = .ok (.invokevirtual 128, 3) := by decide +kernel
theorem dX5_answer_6 : decode cX5_answer 6 = .ok (.ifCond .ne 7, 3) := by decide +kernel
theorem dX5_answer_9 : decode cX5_answer 9 = .ok (.iconst 1, 1) := by decide +kernel
theorem dX5_answer_10 : decode cX5_answer 10 = .ok (.goto 17, 3) := by decide +kernel
theorem dX5_answer_13 : decode cX5_answer 13 = .ok (.iload_n 2, 1) := by decide +kernel
theorem dX5_answer_14 : decode cX5_answer 14 = .ok (.iconst 0, 1) := by decide +kernel
theorem dX5_answer_15 : decode cX5_answer 15 = .ok (.iconst 3, 1) := by decide +kernel
theorem dX5_answer_16 : decode cX5_answer 16 = .ok (.invokestatic 42, 3) := by decide +kernel
theorem dX5_answer_19 : decode cX5_answer 19 = .ok (.ifCond .eq 7, 3) := by decide +kernel
theorem dX5_answer_22 : decode cX5_answer 22 = .ok (.iconst 0, 1) := by decide +kernel
theorem dX5_answer_23 : decode cX5_answer 23 = .ok (.goto 4, 3) := by decide +kernel
theorem dX5_answer_26 : decode cX5_answer 26 = .ok (.iconst 2, 1) := by decide +kernel
theorem dX5_answer_27 : decode cX5_answer 27 = .ok (.putfield 38, 3) := by decide +kernel
theorem dX5_answer_30 : decode cX5_answer 30 = .ok (.aload_n 0, 1) := by decide +kernel
theorem dX5_answer_31 : decode cX5_answer 31 = .ok (.getfield 38, 3) := by decide +kernel
theorem dX5_answer_34 : decode cX5_answer 34 = .ok (.ifCond .le 7, 3) := by decide +kernel
theorem dX5_answer_37 : decode cX5_answer 37 = .ok (.iconst 0, 1) := by decide +kernel
theorem dX5_answer_38 : decode cX5_answer 38 = .ok (.goto 9, 3) := by decide +kernel
theorem dX5_answer_41 : decode cX5_answer 41 = .ok (.aload_n 0, 1) := by decide +kernel
theorem dX5_answer_42 : decode cX5_answer 42 = .ok (.iload_n 1, 1) := by decide +kernel
theorem dX5_answer_43 : decode cX5_answer 43 = .ok (.iload_n 2, 1) := by decide +kernel
theorem dX5_answer_44 : decode cX5_answer 44 = .ok (.invokevirtual 46, 3) := by decide +kernel
theorem dX5_answer_47 : decode cX5_answer 47 = .ok (.ireturn, 1) := by decide +kernel
set_option maxRecDepth 20000 in
theorem ggX5_remember_X5_copy : GoodIn wsX5_remember wsX5_copy := goodIn_r _ [7] (by decide +kernel) (by decide +kernel)
set_option maxRecDepth 20000 in
theorem gX5_remember_X5_copy : GoodIn wsX5_remember (va_wsS RX5 131 yX5_copy wsX5_copy) := goodIn_app (goodIn_of _ (by decide +kernel)) ggX5_remember_X5_copy
theorem dX5_remember_0 : decode cX5_remember 0 = .ok (.aload_n 0, 1) := by decide +kernel
theorem dX5_remember_1 : decode cX5_remember 1 = .ok (.getfield 105, 3) := by decide +kernel
theorem dX5_remember_4 : decode cX5_remember 4 = .ok (.bipush 14, 2) := by decide +kernel
theorem dX5_remember_6 : decode cX5_remember 6 = .ok (.if_icmp .ne 43, 3) := by decide +kernel
theorem dX5_remember_9 : decode cX5_remember 9 = .ok (.iconst 0, 1) := by decide +kernel
theorem dX5_remember_10 : decode cX5_remember 10 = .ok (.istore_n 1, 1) := by decide +kernel
theorem dX5_remember_11 : decode cX5_remember 11 = .ok (.iload_n 1, 1) := by decide +kernel
theorem dX5_remember_12 : decode cX5_remember 12 = .ok (.sipush 1248, 3) := by decide +kernel
theorem dX5_remember_15 : decode cX5_remember 15 = .ok (.if_icmp .ge 24, 3) := by decide +kernel
theorem dX5_remember_18 : decode cX5_remember 18 = .ok (.aload_n 0, 1) := by decide +kernel
theorem dX5_remember_19 : decode cX5_remember 19 = .ok (.getfield 16, 3) := by decide +kernel
theorem dX5_remember_22 : decode cX5_remember 22 = .ok (.iload_n 1, 1) := by decide +kernel
theorem dX5_remember_23 : decode cX5_remember 23 = .ok (.aload_n 0, 1) := by decide +kernel
theorem dX5_remember_24 : decode cX5_remember 24 = .ok (.getfield 16, 3) := by decide +kernel
theorem dX5_remember_27 : decode cX5_remember 27 = .ok (.iload_n 1, 1) := by decide +kernel
theorem dX5_remember_28 : decode cX5_remember 28 = .ok (.bipush 96, 2) := by decide +kernel
theorem dX5_remember_30 : decode cX5_remember 30 = .ok (.iadd, 1) := by decide +kernel
theorem dX5_remember_31 : decode cX5_remember 31 = .ok (.iaload, 1) := by decide +kernel
theorem dX5_remember_32 : decode cX5_remember 32 = .ok (.iastore, 1) := by decide +kernel
theorem dX5_remember_33 : decode cX5_remember 33 = .ok (.iinc 1 1, 3) := by decide +kernel
theorem dX5_remember_36 : decode cX5_remember 36 = .ok (.goto (-25), 3) := by decide +kernel
theorem dX5_remember_39 : decode cX5_remember 39 = .ok (.aload_n 0, 1) := by decide +kernel
theorem dX5_remember_40 : decode cX5_remember 40 = .ok (.dup, 1) := by decide +kernel
theorem dX5_remember_41 : decode cX5_remember 41 = .ok (.getfield 105, 3) := by decide +kernel
theorem dX5_remember_44 : decode cX5_remember 44 = .ok (.iconst 1, 1) := by decide +kernel
theorem dX5_remember_45 : decode cX5_remember 45 = .ok (.isub, 1) := by decide +kernel
theorem dX5_remember_46 : decode cX5_remember 46 = .ok (.putfield 105, 3) := by decide +kernel
theorem dX5_remember_49 : decode cX5_remember 49 = .ok (.aload_n 0, 1) := by decide +kernel
theorem dX5_remember_50 : decode cX5_remember 50 = .ok (.getfield 7, 3) := by decide +kernel
theorem dX5_remember_53 : decode cX5_remember 53 = .ok (.iconst 0, 1) := by decide +kernel
theorem dX5_remember_54 : decode cX5_remember 54 = .ok (.aload_n 0, 1) := by decide +kernel
theorem dX5_remember_55 : decode cX5_remember 55 = .ok (.getfield 16, 3) := by decide +kernel
theorem dX5_remember_58 : decode cX5_remember 58 = .ok (.aload_n 0, 1) := by decide +kernel
theorem dX5_remember_59 : decode cX5_remember 59 = .ok (.getfield 105, 3) := by decide +kernel
theorem dX5_remember_62 : decode cX5_remember 62 = .ok (.bipush 96, 2) := by decide +kernel
theorem dX5_remember_64 : decode cX5_remember 64 = .ok (.imul, 1) := by decide +kernel
theorem dX5_remember_65 : decode cX5_remember 65 = .ok (.invokestatic 131, 3) := by decide +kernel
theorem dX5_remember_68 : decode cX5_remember 68 = .ok (.aload_n 0, 1) := by decide +kernel
theorem dX5_remember_69 : decode cX5_remember 69 = .ok (.dup, 1) := by decide +kernel
theorem dX5_remember_70 : decode cX5_remember 70 = .ok (.getfield 105, 3) := by decide +kernel
theorem dX5_remember_73 : decode cX5_remember 73 = .ok (.iconst 1, 1) := by decide +kernel
theorem dX5_remember_74 : decode cX5_remember 74 = .ok (.iadd, 1) := by decide +kernel
theorem dX5_remember_75 : decode cX5_remember 75 = .ok (.putfield 105, 3) := by decide +kernel
theorem dX5_remember_78 : decode cX5_remember 78 = .ok (.return_, 1) := by decide +kernel
theorem dX5_forgetOne_0 : decode cX5_forgetOne 0 = .ok (.bipush 48, 2) := by decide +kernel
theorem dX5_forgetOne_2 : decode cX5_forgetOne 2 = .ok (.iconst 4, 1) := by decide +kernel
theorem dX5_forgetOne_3 : decode cX5_forgetOne 3 = .ok (.iload_n 1, 1) := by decide +kernel
theorem dX5_forgetOne_4 : decode cX5_forgetOne 4 = .ok (.imul, 1) := by decide +kernel
theorem dX5_forgetOne_5 : decode cX5_forgetOne 5 = .ok (.iadd, 1) := by decide +kernel
theorem dX5_forgetOne_6 : decode cX5_forgetOne 6 = .ok (.istore_n 2, 1) := by decide +kernel
theorem dX5_forgetOne_7 : decode cX5_forgetOne 7 = .ok (.iload_n 2, 1) := by decide +kernel
theorem dX5_forgetOne_8 : decode cX5_forgetOne 8 = .ok (.bipush 48, 2) := by decide +kernel
theorem dX5_forgetOne_10 : decode cX5_forgetOne 10 = .ok (.iconst 4, 1) := by decide +kernel
theorem dX5_forgetOne_11 : decode cX5_forgetOne 11 = .ok (.aload_n 0, 1) := by decide +kernel
theorem dX5_forgetOne_12 : decode cX5_forgetOne 12 = .ok (.getfield 7, 3) := by decide +kernel
theorem dX5_forgetOne_15 : decode cX5_forgetOne 15 = .ok (.iconst 4, 1) := by decide +kernel
theorem dX5_forgetOne_16 : decode cX5_forgetOne 16 = .ok (.iaload, 1) := by decide +kernel
theorem dX5_forgetOne_17 : decode cX5_forgetOne 17 = .ok (.iconst 1, 1) := by decide +kernel
theorem dX5_forgetOne_18 : decode cX5_forgetOne 18 = .ok (.isub, 1) := by decide +kernel
theorem dX5_forgetOne_19 : decode cX5_forgetOne 19 = .ok (.imul, 1) := by decide +kernel
theorem dX5_forgetOne_20 : decode cX5_forgetOne 20 = .ok (.iadd, 1) := by decide +kernel
theorem dX5_forgetOne_21 : decode cX5_forgetOne 21 = .ok (.if_icmp .ge 23, 3) := by decide +kernel
theorem dX5_forgetOne_24 : decode cX5_forgetOne 24 = .ok (.aload_n 0, 1) := by decide +kernel
theorem dX5_forgetOne_25 : decode cX5_forgetOne 25 = .ok (.getfield 7, 3) := by decide +kernel
theorem dX5_forgetOne_28 : decode cX5_forgetOne 28 = .ok (.iload_n 2, 1) := by decide +kernel
theorem dX5_forgetOne_29 : decode cX5_forgetOne 29 = .ok (.aload_n 0, 1) := by decide +kernel
theorem dX5_forgetOne_30 : decode cX5_forgetOne 30 = .ok (.getfield 7, 3) := by decide +kernel
theorem dX5_forgetOne_33 : decode cX5_forgetOne 33 = .ok (.iload_n 2, 1) := by decide +kernel
theorem dX5_forgetOne_34 : decode cX5_forgetOne 34 = .ok (.iconst 4, 1) := by decide +kernel
theorem dX5_forgetOne_35 : decode cX5_forgetOne 35 = .ok (.iadd, 1) := by decide +kernel
theorem dX5_forgetOne_36 : decode cX5_forgetOne 36 = .ok (.iaload, 1) := by decide +kernel
theorem dX5_forgetOne_37 : decode cX5_forgetOne 37 = .ok (.iastore, 1) := by decide +kernel
theorem dX5_forgetOne_38 : decode cX5_forgetOne 38 = .ok (.iinc 2 1, 3) := by decide +kernel
theorem dX5_forgetOne_41 : decode cX5_forgetOne 41 = .ok (.goto (-34), 3) := by decide +kernel
theorem dX5_forgetOne_44 : decode cX5_forgetOne 44 = .ok (.aload_n 0, 1) := by decide +kernel
theorem dX5_forgetOne_45 : decode cX5_forgetOne 45 = .ok (.getfield 7, 3) := by decide +kernel
theorem dX5_forgetOne_48 : decode cX5_forgetOne 48 = .ok (.iconst 4, 1) := by decide +kernel
theorem dX5_forgetOne_49 : decode cX5_forgetOne 49 = .ok (.dup2, 1) := by decide +kernel
theorem dX5_forgetOne_50 : decode cX5_forgetOne 50 = .ok (.iaload, 1) := by decide +kernel
theorem dX5_forgetOne_51 : decode cX5_forgetOne 51 = .ok (.iconst 1, 1) := by decide +kernel
theorem dX5_forgetOne_52 : decode cX5_forgetOne 52 = .ok (.isub, 1) := by decide +kernel
theorem dX5_forgetOne_53 : decode cX5_forgetOne 53 = .ok (.iastore, 1) := by decide +kernel
theorem dX5_forgetOne_54 : decode cX5_forgetOne 54 = .ok (.aload_n 0, 1) := by decide +kernel
theorem dX5_forgetOne_55 : decode cX5_forgetOne 55 = .ok (.getfield 7, 3) := by decide +kernel
theorem dX5_forgetOne_58 : decode cX5_forgetOne 58 = .ok (.bipush 7, 2) := by decide +kernel
theorem dX5_forgetOne_60 : decode cX5_forgetOne 60 = .ok (.dup2, 1) := by decide +kernel
theorem dX5_forgetOne_61 : decode cX5_forgetOne 61 = .ok (.iaload, 1) := by decide +kernel
theorem dX5_forgetOne_62 : decode cX5_forgetOne 62 = .ok (.iconst 1, 1) := by decide +kernel
theorem dX5_forgetOne_63 : decode cX5_forgetOne 63 = .ok (.iadd, 1) := by decide +kernel
theorem dX5_forgetOne_64 : decode cX5_forgetOne 64 = .ok (.iastore, 1) := by decide +kernel
theorem dX5_forgetOne_65 : decode cX5_forgetOne 65 = .ok (.return_, 1) := by decide +kernel
theorem dX5_forgetAll_0 : decode cX5_forgetAll 0 = .ok (.aload_n 0, 1) := by decide +kernel
theorem dX5_forgetAll_1 : decode cX5_forgetAll 1 = .ok (.getfield 7, 3) := by decide +kernel
theorem dX5_forgetAll_4 : decode cX5_forgetAll 4 = .ok (.bipush 7, 2) := by decide +kernel
theorem dX5_forgetAll_6 : decode cX5_forgetAll 6 = .ok (.dup2, 1) := by decide +kernel
theorem dX5_forgetAll_7 : decode cX5_forgetAll 7 = .ok (.iaload, 1) := by decide +kernel
theorem dX5_forgetAll_8 : decode cX5_forgetAll 8 = .ok (.aload_n 0, 1) := by decide +kernel
theorem dX5_forgetAll_9 : decode cX5_forgetAll 9 = .ok (.getfield 7, 3) := by decide +kernel
theorem dX5_forgetAll_12 : decode cX5_forgetAll 12 = .ok (.iconst 4, 1) := by decide +kernel
theorem dX5_forgetAll_13 : decode cX5_forgetAll 13 = .ok (.iaload, 1) := by decide +kernel
theorem dX5_forgetAll_14 : decode cX5_forgetAll 14 = .ok (.iadd, 1) := by decide +kernel
theorem dX5_forgetAll_15 : decode cX5_forgetAll 15 = .ok (.iastore, 1) := by decide +kernel
theorem dX5_forgetAll_16 : decode cX5_forgetAll 16 = .ok (.aload_n 0, 1) := by decide +kernel
theorem dX5_forgetAll_17 : decode cX5_forgetAll 17 = .ok (.getfield 7, 3) := by decide +kernel
theorem dX5_forgetAll_20 : decode cX5_forgetAll 20 = .ok (.iconst 4, 1) := by decide +kernel
theorem dX5_forgetAll_21 : decode cX5_forgetAll 21 = .ok (.iconst 0, 1) := by decide +kernel
theorem dX5_forgetAll_22 : decode cX5_forgetAll 22 = .ok (.iastore, 1) := by decide +kernel
theorem dX5_forgetAll_23 : decode cX5_forgetAll 23 = .ok (.return_, 1) := by decide +kernel
set_option maxRecDepth 20000 in
theorem ggX5_written_X5_answerPart : GoodIn wsX5_written wsX5_answerPart := goodIn_r _ [6, 1, 14, 15, 16, 17, 18, 19, 20, 21, 22, 23, 24] (by decide +kernel) (by decide +kernel)
set_option maxRecDepth 20000 in
theorem gX5_written_X5_answerPart : GoodIn wsX5_written (wsV RX5 46 RX5 yX5_answerPart wsX5_answerPart) := goodIn_app (goodIn_of _ (by decide +kernel)) ggX5_written_X5_answerPart
set_option maxRecDepth 20000 in
theorem ggX5_written_X5_within : GoodIn wsX5_written wsX5_within := goodIn_r _ [9] (by decide +kernel) (by decide +kernel)
set_option maxRecDepth 20000 in
theorem gX5_written_X5_within : GoodIn wsX5_written (va_wsS RX5 42 yX5_within wsX5_within) := goodIn_app (goodIn_of _ (by decide +kernel)) ggX5_written_X5_within
set_option maxRecDepth 20000 in
theorem ggX5_written_X5_forgetOne : GoodIn wsX5_written wsX5_forgetOne := goodIn_r _ [13, 1, 14, 15, 16, 17, 18, 19, 20, 21, 22, 23, 24] (by decide +kernel) (by decide +kernel)
set_option maxRecDepth 20000 in
theorem gX5_written_X5_forgetOne : GoodIn wsX5_written (wsV RX5 135 RX5 yX5_forgetOne wsX5_forgetOne) := goodIn_app (goodIn_of _ (by decide +kernel)) ggX5_written_X5_forgetOne
theorem dX5_written_0 : decode cX5_written 0 = .ok (.aload_n 0, 1) := by decide +kernel
theorem dX5_written_1 : decode cX5_written 1 = .ok (.getfield 7, 3) := by decide +kernel
theorem dX5_written_4 : decode cX5_written 4 = .ok (.bipush 8, 2) := by decide +kernel
theorem dX5_written_6 : decode cX5_written 6 = .ok (.iload_n 1, 1) := by decide +kernel
theorem dX5_written_7 : decode cX5_written 7 = .ok (.iadd, 1) := by decide +kernel
theorem dX5_written_8 : decode cX5_written 8 = .ok (.iaload, 1) := by decide +kernel
theorem dX5_written_9 : decode cX5_written 9 = .ok (.iload_n 2, 1) := by decide +kernel
theorem dX5_written_10 : decode cX5_written 10 = .ok (.if_icmp .ne 5, 3) := by decide +kernel
theorem dX5_written_13 : decode cX5_written 13 = .ok (.iconst 0, 1) := by decide +kernel
theorem dX5_written_14 : decode cX5_written 14 = .ok (.ireturn, 1) := by decide +kernel
theorem dX5_written_15 : decode cX5_written 15 = .ok (.aload_n 0, 1) := by decide +kernel
theorem dX5_written_16 : decode cX5_written 16 = .ok (.getfield 7, 3) := by decide +kernel
theorem dX5_written_19 : decode cX5_written 19 = .ok (.bipush 8, 2) := by decide +kernel
theorem dX5_written_21 : decode cX5_written 21 = .ok (.iload_n 1, 1) := by decide +kernel
theorem dX5_written_22 : decode cX5_written 22 = .ok (.iadd, 1) := by decide +kernel
theorem dX5_written_23 : decode cX5_written 23 = .ok (.iload_n 2, 1) := by decide +kernel
theorem dX5_written_24 : decode cX5_written 24 = .ok (.iastore, 1) := by decide +kernel
theorem dX5_written_25 : decode cX5_written 25 = .ok (.iconst 0, 1) := by decide +kernel
theorem dX5_written_26 : decode cX5_written 26 = .ok (.istore_n 3, 1) := by decide +kernel
theorem dX5_written_27 : decode cX5_written 27 = .ok (.aload_n 0, 1) := by decide +kernel
theorem dX5_written_28 : decode cX5_written 28 = .ok (.getfield 7, 3) := by decide +kernel
theorem dX5_written_31 : decode cX5_written 31 = .ok (.iconst 4, 1) := by decide +kernel
theorem dX5_written_32 : decode cX5_written 32 = .ok (.iaload, 1) := by decide +kernel
theorem dX5_written_33 : decode cX5_written 33 = .ok (.iconst 1, 1) := by decide +kernel
theorem dX5_written_34 : decode cX5_written 34 = .ok (.isub, 1) := by decide +kernel
theorem dX5_written_35 : decode cX5_written 35 = .ok (.istore 4, 2) := by decide +kernel
theorem dX5_written_37 : decode cX5_written 37 = .ok (.iload 4, 2) := by decide +kernel
theorem dX5_written_39 : decode cX5_written 39 = .ok (.ifCond .lt 39, 3) := by decide +kernel
theorem dX5_written_42 : decode cX5_written 42 = .ok (.iload_n 1, 1) := by decide +kernel
theorem dX5_written_43 : decode cX5_written 43 = .ok (.aload_n 0, 1) := by decide +kernel
theorem dX5_written_44 : decode cX5_written 44 = .ok (.iload 4, 2) := by decide +kernel
theorem dX5_written_46 : decode cX5_written 46 = .ok (.iconst 0, 1) := by decide +kernel
theorem dX5_written_47 : decode cX5_written 47 = .ok (.invokevirtual 46, 3) := by decide +kernel
theorem dX5_written_50 : decode cX5_written 50 = .ok (.aload_n 0, 1) := by decide +kernel
theorem dX5_written_51 : decode cX5_written 51 = .ok (.iload 4, 2) := by decide +kernel
theorem dX5_written_53 : decode cX5_written 53 = .ok (.iconst 1, 1) := by decide +kernel
theorem dX5_written_54 : decode cX5_written 54 = .ok (.invokevirtual 46, 3) := by decide +kernel
theorem dX5_written_57 : decode cX5_written 57 = .ok (.invokestatic 42, 3) := by decide +kernel
theorem dX5_written_60 : decode cX5_written 60 = .ok (.ifCond .eq 12, 3) := by decide +kernel
theorem dX5_written_63 : decode cX5_written 63 = .ok (.aload_n 0, 1) := by decide +kernel
theorem dX5_written_64 : decode cX5_written 64 = .ok (.iload 4, 2) := by decide +kernel
theorem dX5_written_66 : decode cX5_written 66 = .ok (.invokevirtual 135, 3) := by decide +kernel
theorem dX5_written_69 : decode cX5_written 69 = .ok (.iinc 3 1, 3) := by decide +kernel
theorem dX5_written_72 : decode cX5_written 72 = .ok (.iinc 4 (-1), 3) := by decide +kernel
theorem dX5_written_75 : decode cX5_written 75 = .ok (.goto (-38), 3) := by decide +kernel
theorem dX5_written_78 : decode cX5_written 78 = .ok (.iload_n 3, 1) := by decide +kernel
theorem dX5_written_79 : decode cX5_written 79 = .ok (.ireturn, 1) := by decide +kernel
set_option maxRecDepth 20000 in
theorem ggX5_write_X5_isPlace : GoodIn wsX5_write wsX5_isPlace := goodIn_r _ [6, 7, 8, 9, 5, 10, 32, 33, 34, 35, 36, 37, 38, 39, 40, 41, 42] (by decide +kernel) (by decide +kernel)
set_option maxRecDepth 20000 in
theorem gX5_write_X5_isPlace : GoodIn wsX5_write (wsV RX5 68 RX5 yX5_isPlace wsX5_isPlace) := goodIn_app (goodIn_of _ (by decide +kernel)) ggX5_write_X5_isPlace
set_option maxRecDepth 20000 in
theorem ggX5_write_X5_remember : GoodIn wsX5_write wsX5_remember := goodIn_r _ [14, 15, 16, 7, 17, 18, 5, 19, 32, 33, 34, 35, 36, 37, 38, 39, 40, 41, 42] (by decide +kernel) (by decide +kernel)
set_option maxRecDepth 20000 in
theorem gX5_write_X5_remember : GoodIn wsX5_write (wsV RX5 138 RX5 yX5_remember wsX5_remember) := goodIn_app (goodIn_of _ (by decide +kernel)) ggX5_write_X5_remember
set_option maxRecDepth 20000 in
theorem ggX5_write_X5_written : GoodIn wsX5_write wsX5_written := goodIn_r _ [23, 7, 24, 25, 26, 5, 27, 8, 9, 10, 28, 29, 30, 31, 32, 33, 34, 35, 36, 37, 38, 39, 40, 41, 42] (by decide +kernel) (by decide +kernel)
set_option maxRecDepth 20000 in
theorem gX5_write_X5_written : GoodIn wsX5_write (wsV RX5 108 RX5 yX5_written wsX5_written) := goodIn_app (goodIn_of _ (by decide +kernel)) ggX5_write_X5_written
theorem dX5_write_0 : decode cX5_write 0 = .ok (.aload_n 0, 1) := by decide +kernel
theorem dX5_write_1 : decode cX5_write 1 = .ok (.aload_n 0, 1) := by decide +kernel
theorem dX5_write_2 : decode cX5_write 2 = .ok (.iload_n 1, 1) := by decide +kernel
theorem dX5_write_3 : decode cX5_write 3 = .ok (.invokevirtual 68, 3) := by decide +kernel
theorem dX5_write_6 : decode cX5_write 6 = .ok (.ifCond .eq 7, 3) := by decide +kernel
theorem dX5_write_9 : decode cX5_write 9 = .ok (.iconst 0, 1) := by decide +kernel
theorem dX5_write_10 : decode cX5_write 10 = .ok (.goto 4, 3) := by decide +kernel
theorem dX5_write_13 : decode cX5_write 13 = .ok (.iconst 1, 1) := by decide +kernel
theorem dX5_write_14 : decode cX5_write 14 = .ok (.putfield 38, 3) := by decide +kernel
theorem dX5_write_17 : decode cX5_write 17 = .ok (.aload_n 0, 1) := by decide +kernel
theorem dX5_write_18 : decode cX5_write 18 = .ok (.getfield 38, 3) := by decide +kernel
theorem dX5_write_21 : decode cX5_write 21 = .ok (.ifCond .le 5, 3) := by decide +kernel
theorem dX5_write_24 : decode cX5_write 24 = .ok (.iconst 0, 1) := by decide +kernel
theorem dX5_write_25 : decode cX5_write 25 = .ok (.ireturn, 1) := by decide +kernel
theorem dX5_write_26 : decode cX5_write 26 = .ok (.aload_n 0, 1) := by decide +kernel
theorem dX5_write_27 : decode cX5_write 27 = .ok (.invokevirtual 138, 3) := by decide +kernel
theorem dX5_write_30 : decode cX5_write 30 = .ok (.aload_n 0, 1) := by decide +kernel
theorem dX5_write_31 : decode cX5_write 31 = .ok (.iload_n 1, 1) := by decide +kernel
theorem dX5_write_32 : decode cX5_write 32 = .ok (.iload_n 2, 1) := by decide +kernel
theorem dX5_write_33 : decode cX5_write 33 = .ok (.ifCond .eq 7, 3) := by decide +kernel
theorem dX5_write_36 : decode cX5_write 36 = .ok (.iconst 1, 1) := by decide +kernel
theorem dX5_write_37 : decode cX5_write 37 = .ok (.goto 4, 3) := by decide +kernel
theorem dX5_write_40 : decode cX5_write 40 = .ok (.iconst 0, 1) := by decide +kernel
theorem dX5_write_41 : decode cX5_write 41 = .ok (.invokevirtual 108, 3) := by decide +kernel
theorem dX5_write_44 : decode cX5_write 44 = .ok (.ireturn, 1) := by decide +kernel
set_option maxRecDepth 20000 in
theorem ggX5_isSetting_X5_within : GoodIn wsX5_isSetting wsX5_within := goodIn_r _ [4] (by decide +kernel) (by decide +kernel)
set_option maxRecDepth 20000 in
theorem gX5_isSetting_X5_within : GoodIn wsX5_isSetting (va_wsS RX5 42 yX5_within wsX5_within) := goodIn_app (goodIn_of _ (by decide +kernel)) ggX5_isSetting_X5_within
theorem dX5_isSetting_0 : decode cX5_isSetting 0 = .ok (.iload_n 0, 1) := by decide +kernel
theorem dX5_isSetting_1 : decode cX5_isSetting 1 = .ok (.ifCond .ne 13, 3) := by decide +kernel
theorem dX5_isSetting_4 : decode cX5_isSetting 4 = .ok (.iload_n 1, 1) := by decide +kernel
theorem dX5_isSetting_5 : decode cX5_isSetting 5 = .ok (.iconst 1, 1) := by decide +kernel
theorem dX5_isSetting_6 : decode cX5_isSetting 6 = .ok (.bipush 8, 2) := by decide +kernel
theorem dX5_isSetting_8 : decode cX5_isSetting 8 = .ok (.invokestatic 42, 3) := by decide +kernel
theorem dX5_isSetting_11 : decode cX5_isSetting 11 = .ok (.goto 37, 3) := by decide +kernel
theorem dX5_isSetting_14 : decode cX5_isSetting 14 = .ok (.iload_n 0, 1) := by decide +kernel
theorem dX5_isSetting_15 : decode cX5_isSetting 15 = .ok (.iconst 1, 1) := by decide +kernel
theorem dX5_isSetting_16 : decode cX5_isSetting 16 = .ok (.if_icmp .ne 12, 3) := by decide +kernel
theorem dX5_isSetting_19 : decode cX5_isSetting 19 = .ok (.iload_n 1, 1) := by decide +kernel
theorem dX5_isSetting_20 : decode cX5_isSetting 20 = .ok (.iconst 0, 1) := by decide +kernel
theorem dX5_isSetting_21 : decode cX5_isSetting 21 = .ok (.iconst 4, 1) := by decide +kernel
theorem dX5_isSetting_22 : decode cX5_isSetting 22 = .ok (.invokestatic 42, 3) := by decide +kernel
theorem dX5_isSetting_25 : decode cX5_isSetting 25 = .ok (.goto 23, 3) := by decide +kernel
theorem dX5_isSetting_28 : decode cX5_isSetting 28 = .ok (.iload_n 0, 1) := by decide +kernel
theorem dX5_isSetting_29 : decode cX5_isSetting 29 = .ok (.iconst 2, 1) := by decide +kernel
theorem dX5_isSetting_30 : decode cX5_isSetting 30 = .ok (.if_icmp .ne 17, 3) := by decide +kernel
theorem dX5_isSetting_33 : decode cX5_isSetting 33 = .ok (.iload_n 1, 1) := by decide +kernel
theorem dX5_isSetting_34 : decode cX5_isSetting 34 = .ok (.iconst 0, 1) := by decide +kernel
theorem dX5_isSetting_35 : decode cX5_isSetting 35 = .ok (.bipush 9, 2) := by decide +kernel
theorem dX5_isSetting_37 : decode cX5_isSetting 37 = .ok (.invokestatic 42, 3) := by decide +kernel
theorem dX5_isSetting_40 : decode cX5_isSetting 40 = .ok (.ifCond .eq 7, 3) := by decide +kernel
theorem dX5_isSetting_43 : decode cX5_isSetting 43 = .ok (.iconst 1, 1) := by decide +kernel
theorem dX5_isSetting_44 : decode cX5_isSetting 44 = .ok (.goto 4, 3) := by decide +kernel
theorem dX5_isSetting_47 : decode cX5_isSetting 47 = .ok (.iconst 0, 1) := by decide +kernel
theorem dX5_isSetting_48 : decode cX5_isSetting 48 = .ok (.ireturn, 1) := by decide +kernel
set_option maxRecDepth 20000 in
theorem ggX5_changed_X5_forgetAll : GoodIn wsX5_changed wsX5_forgetAll := goodIn_r _ [6, 1, 7, 8, 9, 10, 11, 12, 13, 14, 15, 16, 17] (by decide +kernel) (by decide +kernel)
set_option maxRecDepth 20000 in
theorem gX5_changed_X5_forgetAll : GoodIn wsX5_changed (wsV RX5 141 RX5 yX5_forgetAll wsX5_forgetAll) := goodIn_app (goodIn_of _ (by decide +kernel)) ggX5_changed_X5_forgetAll
theorem dX5_changed_0 : decode cX5_changed 0 = .ok (.aload_n 0, 1) := by decide +kernel
theorem dX5_changed_1 : decode cX5_changed 1 = .ok (.getfield 7, 3) := by decide +kernel
theorem dX5_changed_4 : decode cX5_changed 4 = .ok (.iconst 1, 1) := by decide +kernel
theorem dX5_changed_5 : decode cX5_changed 5 = .ok (.iload_n 1, 1) := by decide +kernel
theorem dX5_changed_6 : decode cX5_changed 6 = .ok (.iadd, 1) := by decide +kernel
theorem dX5_changed_7 : decode cX5_changed 7 = .ok (.iaload, 1) := by decide +kernel
theorem dX5_changed_8 : decode cX5_changed 8 = .ok (.istore_n 3, 1) := by decide +kernel
theorem dX5_changed_9 : decode cX5_changed 9 = .ok (.aload_n 0, 1) := by decide +kernel
theorem dX5_changed_10 : decode cX5_changed 10 = .ok (.getfield 7, 3) := by decide +kernel
theorem dX5_changed_13 : decode cX5_changed 13 = .ok (.iconst 1, 1) := by decide +kernel
theorem dX5_changed_14 : decode cX5_changed 14 = .ok (.iload_n 1, 1) := by decide +kernel
theorem dX5_changed_15 : decode cX5_changed 15 = .ok (.iadd, 1) := by decide +kernel
theorem dX5_changed_16 : decode cX5_changed 16 = .ok (.iload_n 2, 1) := by decide +kernel
theorem dX5_changed_17 : decode cX5_changed 17 = .ok (.iastore, 1) := by decide +kernel
theorem dX5_changed_18 : decode cX5_changed 18 = .ok (.iload_n 1, 1) := by decide +kernel
theorem dX5_changed_19 : decode cX5_changed 19 = .ok (.iconst 1, 1) := by decide +kernel
theorem dX5_changed_20 : decode cX5_changed 20 = .ok (.if_icmp .ne 12, 3) := by decide +kernel
theorem dX5_changed_23 : decode cX5_changed 23 = .ok (.iload_n 3, 1) := by decide +kernel
theorem dX5_changed_24 : decode cX5_changed 24 = .ok (.iload_n 2, 1) := by decide +kernel
theorem dX5_changed_25 : decode cX5_changed 25 = .ok (.if_icmp .eq 7, 3) := by decide +kernel
theorem dX5_changed_28 : decode cX5_changed 28 = .ok (.aload_n 0, 1) := by decide +kernel
theorem dX5_changed_29 : decode cX5_changed 29 = .ok (.invokevirtual 141, 3) := by decide +kernel
theorem dX5_changed_32 : decode cX5_changed 32 = .ok (.iload_n 3, 1) := by decide +kernel
theorem dX5_changed_33 : decode cX5_changed 33 = .ok (.ireturn, 1) := by decide +kernel
set_option maxRecDepth 20000 in
theorem ggX5_set_X5_isSetting : GoodIn wsX5_set wsX5_isSetting := goodIn_r _ [5, 6, 7, 4, 8] (by decide +kernel) (by decide +kernel)
set_option maxRecDepth 20000 in
theorem gX5_set_X5_isSetting : GoodIn wsX5_set (va_wsS RX5 144 yX5_isSetting wsX5_isSetting) := goodIn_app (goodIn_of _ (by decide +kernel)) ggX5_set_X5_isSetting
set_option maxRecDepth 20000 in
theorem ggX5_set_X5_remember : GoodIn wsX5_set wsX5_remember := goodIn_r _ [12, 13, 14, 15, 16, 17, 4, 18, 27, 28, 29, 30, 31, 32, 33, 34, 35, 36, 37] (by decide +kernel) (by decide +kernel)
set_option maxRecDepth 20000 in
theorem gX5_set_X5_remember : GoodIn wsX5_set (wsV RX5 138 RX5 yX5_remember wsX5_remember) := goodIn_app (goodIn_of _ (by decide +kernel)) ggX5_set_X5_remember
set_option maxRecDepth 20000 in
theorem ggX5_set_X5_changed : GoodIn wsX5_set wsX5_changed := goodIn_r _ [22, 15, 23, 24, 25, 4, 26, 27, 28, 29, 30, 31, 32, 33, 34, 35, 36, 37] (by decide +kernel) (by decide +kernel)
set_option maxRecDepth 20000 in
theorem gX5_set_X5_changed : GoodIn wsX5_set (wsV RX5 111 RX5 yX5_changed wsX5_changed) := goodIn_app (goodIn_of _ (by decide +kernel)) ggX5_set_X5_changed
theorem dX5_set_0 : decode cX5_set 0 = .ok (.aload_n 0, 1) := by decide +kernel
theorem dX5_set_1 : decode cX5_set 1 = .ok (.iload_n 1, 1) := by decide +kernel
theorem dX5_set_2 : decode cX5_set 2 = .ok (.iload_n 2, 1) := by decide +kernel
theorem dX5_set_3 : decode cX5_set 3 = .ok (.invokestatic 144, 3) := by decide +kernel
theorem dX5_set_6 : decode cX5_set 6 = .ok (.ifCond .eq 7, 3) := by decide +kernel
theorem dX5_set_9 : decode cX5_set 9 = .ok (.iconst 0, 1) := by decide +kernel
theorem dX5_set_10 : decode cX5_set 10 = .ok (.goto 4, 3) := by decide +kernel
theorem dX5_set_13 : decode cX5_set 13 = .ok (.iconst 1, 1) := by decide +kernel
theorem dX5_set_14 : decode cX5_set 14 = .ok (.putfield 38, 3) := by decide +kernel
theorem dX5_set_17 : decode cX5_set 17 = .ok (.aload_n 0, 1) := by decide +kernel
theorem dX5_set_18 : decode cX5_set 18 = .ok (.getfield 38, 3) := by decide +kernel
theorem dX5_set_21 : decode cX5_set 21 = .ok (.ifCond .le 5, 3) := by decide +kernel
theorem dX5_set_24 : decode cX5_set 24 = .ok (.iconst 0, 1) := by decide +kernel
theorem dX5_set_25 : decode cX5_set 25 = .ok (.ireturn, 1) := by decide +kernel
theorem dX5_set_26 : decode cX5_set 26 = .ok (.aload_n 0, 1) := by decide +kernel
theorem dX5_set_27 : decode cX5_set 27 = .ok (.invokevirtual 138, 3) := by decide +kernel
theorem dX5_set_30 : decode cX5_set 30 = .ok (.aload_n 0, 1) := by decide +kernel
theorem dX5_set_31 : decode cX5_set 31 = .ok (.iload_n 1, 1) := by decide +kernel
theorem dX5_set_32 : decode cX5_set 32 = .ok (.iload_n 2, 1) := by decide +kernel
theorem dX5_set_33 : decode cX5_set 33 = .ok (.invokevirtual 111, 3) := by decide +kernel
theorem dX5_set_36 : decode cX5_set 36 = .ok (.ireturn, 1) := by decide +kernel
set_option maxRecDepth 20000 in
theorem ggX5_asked_X5_costOf : GoodIn wsX5_asked wsX5_costOf := goodIn_r _ [6, 1, 7, 8, 9, 5, 10, 11, 12, 13, 14, 23, 24, 25, 26, 27, 28, 29, 30, 31, 32, 33] (by decide +kernel) (by decide +kernel)
set_option maxRecDepth 20000 in
theorem gX5_asked_X5_costOf : GoodIn wsX5_asked (wsV RX5 147 RX5 yX5_costOf wsX5_costOf) := goodIn_app (goodIn_of _ (by decide +kernel)) ggX5_asked_X5_costOf
set_option maxRecDepth 20000 in
theorem ggX5_asked_X5_answerAbout : GoodIn wsX5_asked wsX5_answerAbout := goodIn_r _ [10, 1, 11, 12, 13, 5, 14, 23, 24, 25, 26, 27, 28, 29, 30, 31, 32, 33] (by decide +kernel) (by decide +kernel)
set_option maxRecDepth 20000 in
theorem gX5_asked_X5_answerAbout : GoodIn wsX5_asked (wsV RX5 50 RX5 yX5_answerAbout wsX5_answerAbout) := goodIn_app (goodIn_of _ (by decide +kernel)) ggX5_asked_X5_answerAbout
set_option maxRecDepth 20000 in
theorem ggX5_asked_X5_forgetOne : GoodIn wsX5_asked wsX5_forgetOne := goodIn_r _ [18, 1, 23, 24, 25, 26, 27, 28, 29, 30, 31, 32, 33] (by decide +kernel) (by decide +kernel)
set_option maxRecDepth 20000 in
theorem gX5_asked_X5_forgetOne : GoodIn wsX5_asked (wsV RX5 135 RX5 yX5_forgetOne wsX5_forgetOne) := goodIn_app (goodIn_of _ (by decide +kernel)) ggX5_asked_X5_forgetOne
set_option maxRecDepth 20000 in
theorem ggX5_asked_X5_keysIn : GoodIn wsX5_asked wsX5_keysIn := goodIn_r _ [22, 1, 23, 24, 25, 26, 27, 28, 29, 30, 31, 32, 33] (by decide +kernel) (by decide +kernel)
set_option maxRecDepth 20000 in
theorem gX5_asked_X5_keysIn : GoodIn wsX5_asked (wsV RX5 121 RX5 yX5_keysIn wsX5_keysIn) := goodIn_app (goodIn_of _ (by decide +kernel)) ggX5_asked_X5_keysIn
theorem dX5_asked_0 : decode cX5_asked 0 = .ok (.aload_n 0, 1) := by decide +kernel
theorem dX5_asked_1 : decode cX5_asked 1 = .ok (.iload_n 1, 1) := by decide +kernel
theorem dX5_asked_2 : decode cX5_asked 2 = .ok (.iload_n 2, 1) := by decide +kernel
theorem dX5_asked_3 : decode cX5_asked 3 = .ok (.invokevirtual 147, 3) := by decide +kernel
theorem dX5_asked_6 : decode cX5_asked 6 = .ok (.istore_n 3, 1) := by decide +kernel
theorem dX5_asked_7 : decode cX5_asked 7 = .ok (.aload_n 0, 1) := by decide +kernel
theorem dX5_asked_8 : decode cX5_asked 8 = .ok (.iload_n 1, 1) := by decide +kernel
theorem dX5_asked_9 : decode cX5_asked 9 = .ok (.iload_n 2, 1) := by decide +kernel
theorem dX5_asked_10 : decode cX5_asked 10 = .ok (.invokevirtual 50, 3) := by decide +kernel
theorem dX5_asked_13 : decode cX5_asked 13 = .ok (.istore 4, 2) := by decide +kernel
theorem dX5_asked_15 : decode cX5_asked 15 = .ok (.iload 4, 2) := by decide +kernel
theorem dX5_asked_17 : decode cX5_asked 17 = .ok (.iconst (-1), 1) := by decide +kernel
theorem dX5_asked_18 : decode cX5_asked 18 = .ok (.if_icmp .ne 19, 3) := by decide +kernel
theorem dX5_asked_21 : decode cX5_asked 21 = .ok (.aload_n 0, 1) := by decide +kernel
theorem dX5_asked_22 : decode cX5_asked 22 = .ok (.getfield 7, 3) := by decide +kernel
theorem dX5_asked_25 : decode cX5_asked 25 = .ok (.iconst 4, 1) := by decide +kernel
theorem dX5_asked_26 : decode cX5_asked 26 = .ok (.iaload, 1) := by decide +kernel
theorem dX5_asked_27 : decode cX5_asked 27 = .ok (.bipush 12, 2) := by decide +kernel
theorem dX5_asked_29 : decode cX5_asked 29 = .ok (.if_icmp .ne 8, 3) := by decide +kernel
theorem dX5_asked_32 : decode cX5_asked 32 = .ok (.aload_n 0, 1) := by decide +kernel
theorem dX5_asked_33 : decode cX5_asked 33 = .ok (.iconst 0, 1) := by decide +kernel
theorem dX5_asked_34 : decode cX5_asked 34 = .ok (.invokevirtual 135, 3) := by decide +kernel
theorem dX5_asked_37 : decode cX5_asked 37 = .ok (.iload 4, 2) := by decide +kernel
theorem dX5_asked_39 : decode cX5_asked 39 = .ok (.iconst (-1), 1) := by decide +kernel
theorem dX5_asked_40 : decode cX5_asked 40 = .ok (.if_icmp .ne 21, 3) := by decide +kernel
theorem dX5_asked_43 : decode cX5_asked 43 = .ok (.aload_n 0, 1) := by decide +kernel
theorem dX5_asked_44 : decode cX5_asked 44 = .ok (.getfield 7, 3) := by decide +kernel
theorem dX5_asked_47 : decode cX5_asked 47 = .ok (.iconst 4, 1) := by decide +kernel
theorem dX5_asked_48 : decode cX5_asked 48 = .ok (.iaload, 1) := by decide +kernel
theorem dX5_asked_49 : decode cX5_asked 49 = .ok (.istore 4, 2) := by decide +kernel
theorem dX5_asked_51 : decode cX5_asked 51 = .ok (.aload_n 0, 1) := by decide +kernel
theorem dX5_asked_52 : decode cX5_asked 52 = .ok (.getfield 7, 3) := by decide +kernel
theorem dX5_asked_55 : decode cX5_asked 55 = .ok (.iconst 4, 1) := by decide +kernel
theorem dX5_asked_56 : decode cX5_asked 56 = .ok (.dup2, 1) := by decide +kernel
theorem dX5_asked_57 : decode cX5_asked 57 = .ok (.iaload, 1) := by decide +kernel
theorem dX5_asked_58 : decode cX5_asked 58 = .ok (.iconst 1, 1) := by decide +kernel
theorem dX5_asked_59 : decode cX5_asked 59 = .ok (.iadd, 1) := by decide +kernel
theorem dX5_asked_60 : decode cX5_asked 60 = .ok (.iastore, 1) := by decide +kernel
theorem dX5_asked_61 : decode cX5_asked 61 = .ok (.aload_n 0, 1) := by decide +kernel
theorem dX5_asked_62 : decode cX5_asked 62 = .ok (.iload_n 1, 1) := by decide +kernel
theorem dX5_asked_63 : decode cX5_asked 63 = .ok (.iload_n 2, 1) := by decide +kernel
theorem dX5_asked_64 : decode cX5_asked 64 = .ok (.invokevirtual 121, 3) := by decide +kernel
theorem dX5_asked_67 : decode cX5_asked 67 = .ok (.istore 5, 2) := by decide +kernel
theorem dX5_asked_69 : decode cX5_asked 69 = .ok (.iload 5, 2) := by decide +kernel
theorem dX5_asked_71 : decode cX5_asked 71 = .ok (.aload_n 0, 1) := by decide +kernel
theorem dX5_asked_72 : decode cX5_asked 72 = .ok (.getfield 7, 3) := by decide +kernel
theorem dX5_asked_75 : decode cX5_asked 75 = .ok (.iconst 2, 1) := by decide +kernel
theorem dX5_asked_76 : decode cX5_asked 76 = .ok (.iaload, 1) := by decide +kernel
theorem dX5_asked_77 : decode cX5_asked 77 = .ok (.if_icmp .ge 8, 3) := by decide +kernel
theorem dX5_asked_80 : decode cX5_asked 80 = .ok (.bipush (-2), 2) := by decide +kernel
theorem dX5_asked_82 : decode cX5_asked 82 = .ok (.goto 5, 3) := by decide +kernel
theorem dX5_asked_85 : decode cX5_asked 85 = .ok (.iload 5, 2) := by decide +kernel
theorem dX5_asked_87 : decode cX5_asked 87 = .ok (.istore 6, 2) := by decide +kernel
theorem dX5_asked_89 : decode cX5_asked 89 = .ok (.aload_n 0, 1) := by decide +kernel
theorem dX5_asked_90 : decode cX5_asked 90 = .ok (.getfield 7, 3) := by decide +kernel
theorem dX5_asked_93 : decode cX5_asked 93 = .ok (.bipush 48, 2) := by decide +kernel
theorem dX5_asked_95 : decode cX5_asked 95 = .ok (.iconst 4, 1) := by decide +kernel
theorem dX5_asked_96 : decode cX5_asked 96 = .ok (.iload 4, 2) := by decide +kernel
theorem dX5_asked_98 : decode cX5_asked 98 = .ok (.imul, 1) := by decide +kernel
theorem dX5_asked_99 : decode cX5_asked 99 = .ok (.iadd, 1) := by decide +kernel
theorem dX5_asked_100 : decode cX5_asked 100 = .ok (.iconst 0, 1) := by decide +kernel
theorem dX5_asked_101 : decode cX5_asked 101 = .ok (.iadd, 1) := by decide +kernel
theorem dX5_asked_102 : decode cX5_asked 102 = .ok (.iload_n 1, 1) := by decide +kernel
theorem dX5_asked_103 : decode cX5_asked 103 = .ok (.iastore, 1) := by decide +kernel
theorem dX5_asked_104 : decode cX5_asked 104 = .ok (.aload_n 0, 1) := by decide +kernel
theorem dX5_asked_105 : decode cX5_asked 105 = .ok (.getfield 7, 3) := by decide +kernel
theorem dX5_asked_108 : decode cX5_asked 108 = .ok (.bipush 48, 2) := by decide +kernel
theorem dX5_asked_110 : decode cX5_asked 110 = .ok (.iconst 4, 1) := by decide +kernel
theorem dX5_asked_111 : decode cX5_asked 111 = .ok (.iload 4, 2) := by decide +kernel
theorem dX5_asked_113 : decode cX5_asked 113 = .ok (.imul, 1) := by decide +kernel
theorem dX5_asked_114 : decode cX5_asked 114 = .ok (.iadd, 1) := by decide +kernel
theorem dX5_asked_115 : decode cX5_asked 115 = .ok (.iconst 1, 1) := by decide +kernel
theorem dX5_asked_116 : decode cX5_asked 116 = .ok (.iadd, 1) := by decide +kernel
theorem dX5_asked_117 : decode cX5_asked 117 = .ok (.iload_n 2, 1) := by decide +kernel
theorem dX5_asked_118 : decode cX5_asked 118 = .ok (.iastore, 1) := by decide +kernel
theorem dX5_asked_119 : decode cX5_asked 119 = .ok (.aload_n 0, 1) := by decide +kernel
theorem dX5_asked_120 : decode cX5_asked 120 = .ok (.getfield 7, 3) := by decide +kernel
theorem dX5_asked_123 : decode cX5_asked 123 = .ok (.bipush 48, 2) := by decide +kernel
theorem dX5_asked_125 : decode cX5_asked 125 = .ok (.iconst 4, 1) := by decide +kernel
theorem dX5_asked_126 : decode cX5_asked 126 = .ok (.iload 4, 2) := by decide +kernel
theorem dX5_asked_128 : decode cX5_asked 128 = .ok (.imul, 1) := by decide +kernel
theorem dX5_asked_129 : decode cX5_asked 129 = .ok (.iadd, 1) := by decide +kernel
theorem dX5_asked_130 : decode cX5_asked 130 = .ok (.iconst 2, 1) := by decide +kernel
theorem dX5_asked_131 : decode cX5_asked 131 = .ok (.iadd, 1) := by decide +kernel
theorem dX5_asked_132 : decode cX5_asked 132 = .ok (.iload 6, 2) := by decide +kernel
theorem dX5_asked_134 : decode cX5_asked 134 = .ok (.iastore, 1) := by decide +kernel
theorem dX5_asked_135 : decode cX5_asked 135 = .ok (.aload_n 0, 1) := by decide +kernel
theorem dX5_asked_136 : decode cX5_asked 136 = .ok (.getfield 7, 3) := by decide +kernel
theorem dX5_asked_139 : decode cX5_asked 139 = .ok (.bipush 48, 2) := by decide +kernel
theorem dX5_asked_141 : decode cX5_asked 141 = .ok (.iconst 4, 1) := by decide +kernel
theorem dX5_asked_142 : decode cX5_asked 142 = .ok (.iload 4, 2) := by decide +kernel
theorem dX5_asked_144 : decode cX5_asked 144 = .ok (.imul, 1) := by decide +kernel
theorem dX5_asked_145 : decode cX5_asked 145 = .ok (.iadd, 1) := by decide +kernel
theorem dX5_asked_146 : decode cX5_asked 146 = .ok (.iconst 3, 1) := by decide +kernel
theorem dX5_asked_147 : decode cX5_asked 147 = .ok (.iadd, 1) := by decide +kernel
theorem dX5_asked_148 : decode cX5_asked 148 = .ok (.iload_n 3, 1) := by decide +kernel
theorem dX5_asked_149 : decode cX5_asked 149 = .ok (.iastore, 1) := by decide +kernel
theorem dX5_asked_150 : decode cX5_asked 150 = .ok (.aload_n 0, 1) := by decide +kernel
theorem dX5_asked_151 : decode cX5_asked 151 = .ok (.getfield 7, 3) := by decide +kernel
theorem dX5_asked_154 : decode cX5_asked 154 = .ok (.iconst 5, 1) := by decide +kernel
theorem dX5_asked_155 : decode cX5_asked 155 = .ok (.dup2, 1) := by decide +kernel
theorem dX5_asked_156 : decode cX5_asked 156 = .ok (.iaload, 1) := by decide +kernel
theorem dX5_asked_157 : decode cX5_asked 157 = .ok (.iload_n 3, 1) := by decide +kernel
theorem dX5_asked_158 : decode cX5_asked 158 = .ok (.iadd, 1) := by decide +kernel
theorem dX5_asked_159 : decode cX5_asked 159 = .ok (.iastore, 1) := by decide +kernel
theorem dX5_asked_160 : decode cX5_asked 160 = .ok (.aload_n 0, 1) := by decide +kernel
theorem dX5_asked_161 : decode cX5_asked 161 = .ok (.getfield 7, 3) := by decide +kernel
theorem dX5_asked_164 : decode cX5_asked 164 = .ok (.bipush 6, 2) := by decide +kernel
theorem dX5_asked_166 : decode cX5_asked 166 = .ok (.dup2, 1) := by decide +kernel
theorem dX5_asked_167 : decode cX5_asked 167 = .ok (.iaload, 1) := by decide +kernel
theorem dX5_asked_168 : decode cX5_asked 168 = .ok (.iconst 1, 1) := by decide +kernel
theorem dX5_asked_169 : decode cX5_asked 169 = .ok (.iadd, 1) := by decide +kernel
theorem dX5_asked_170 : decode cX5_asked 170 = .ok (.iastore, 1) := by decide +kernel
theorem dX5_asked_171 : decode cX5_asked 171 = .ok (.iload 6, 2) := by decide +kernel
theorem dX5_asked_173 : decode cX5_asked 173 = .ok (.ireturn, 1) := by decide +kernel
set_option maxRecDepth 20000 in
theorem ggX5_whyNotAsked_X5_whyNoRange : GoodIn wsX5_whyNotAsked wsX5_whyNoRange := goodIn_r _ [5, 6, 7, 8, 4, 9, 10, 11, 12, 13, 18, 19, 20, 21, 22, 23, 24, 25, 26, 27, 28] (by decide +kernel) (by decide +kernel)
set_option maxRecDepth 20000 in
theorem gX5_whyNotAsked_X5_whyNoRange : GoodIn wsX5_whyNotAsked (wsV RX5 72 RX5 yX5_whyNoRange wsX5_whyNoRange) := goodIn_app (goodIn_of _ (by decide +kernel)) ggX5_whyNotAsked_X5_whyNoRange
set_option maxRecDepth 20000 in
theorem ggX5_whyNotAsked_X5_isWide : GoodIn wsX5_whyNotAsked wsX5_isWide := goodIn_r _ [17, 10, 18, 19, 20, 21, 22, 23, 24, 25, 26, 27, 28] (by decide +kernel) (by decide +kernel)
set_option maxRecDepth 20000 in
theorem gX5_whyNotAsked_X5_isWide : GoodIn wsX5_whyNotAsked (wsV RX5 114 RX5 yX5_isWide wsX5_isWide) := goodIn_app (goodIn_of _ (by decide +kernel)) ggX5_whyNotAsked_X5_isWide
theorem dX5_whyNotAsked_0 : decode cX5_whyNotAsked 0 = .ok (.aload_n 0, 1) := by decide +kernel
theorem dX5_whyNotAsked_1 : decode cX5_whyNotAsked 1 = .ok (.iload_n 1, 1) := by decide +kernel
theorem dX5_whyNotAsked_2 : decode cX5_whyNotAsked 2 = .ok (.iload_n 2, 1) := by decide +kernel
theorem dX5_whyNotAsked_3 : decode cX5_whyNotAsked 3 = .ok (.invokevirtual 72, 3) := by decide +kernel
theorem dX5_whyNotAsked_6 : decode cX5_whyNotAsked 6 = .ok (.istore_n 3, 1) := by decide +kernel
theorem dX5_whyNotAsked_7 : decode cX5_whyNotAsked 7 = .ok (.iload_n 3, 1) := by decide +kernel
theorem dX5_whyNotAsked_8 : decode cX5_whyNotAsked 8 = .ok (.ifCond .le 7, 3) := by decide +kernel
theorem dX5_whyNotAsked_11 : decode cX5_whyNotAsked 11 = .ok (.iload_n 3, 1) := by decide +kernel
theorem dX5_whyNotAsked_12 : decode cX5_whyNotAsked 12 = .ok (.goto 17, 3) := by decide +kernel
theorem dX5_whyNotAsked_15 : decode cX5_whyNotAsked 15 = .ok (.aload_n 0, 1) := by decide +kernel
theorem dX5_whyNotAsked_16 : decode cX5_whyNotAsked 16 = .ok (.iload_n 1, 1) := by decide +kernel
theorem dX5_whyNotAsked_17 : decode cX5_whyNotAsked 17 = .ok (.iload_n 2, 1) := by decide +kernel
theorem dX5_whyNotAsked_18 : decode cX5_whyNotAsked 18 = .ok (.invokevirtual 114, 3) := by decide +kernel
theorem dX5_whyNotAsked_21 : decode cX5_whyNotAsked 21 = .ok (.ifCond .eq 7, 3) := by decide +kernel
theorem dX5_whyNotAsked_24 : decode cX5_whyNotAsked 24 = .ok (.iconst 0, 1) := by decide +kernel
theorem dX5_whyNotAsked_25 : decode cX5_whyNotAsked 25 = .ok (.goto 4, 3) := by decide +kernel
theorem dX5_whyNotAsked_28 : decode cX5_whyNotAsked 28 = .ok (.iconst 3, 1) := by decide +kernel
theorem dX5_whyNotAsked_29 : decode cX5_whyNotAsked 29 = .ok (.ireturn, 1) := by decide +kernel
set_option maxRecDepth 20000 in
theorem ggX5_ask_X5_whyNotAsked : GoodIn wsX5_ask wsX5_whyNotAsked := goodIn_r _ [6, 7, 8, 9, 5, 10, 11, 12, 13, 14, 15, 16, 17, 18, 19, 20, 21, 22, 56, 57, 58, 59, 60, 61, 62, 63, 64, 65, 66] (by decide +kernel) (by decide +kernel)
set_option maxRecDepth 20000 in
theorem gX5_ask_X5_whyNotAsked : GoodIn wsX5_ask (wsV RX5 150 RX5 yX5_whyNotAsked wsX5_whyNotAsked) := goodIn_app (goodIn_of _ (by decide +kernel)) ggX5_ask_X5_whyNotAsked
set_option maxRecDepth 20000 in
theorem ggX5_ask_X5_remember : GoodIn wsX5_ask wsX5_remember := goodIn_r _ [26, 27, 28, 15, 29, 30, 5, 31, 56, 57, 58, 59, 60, 61, 62, 63, 64, 65, 66] (by decide +kernel) (by decide +kernel)
set_option maxRecDepth 20000 in
theorem gX5_ask_X5_remember : GoodIn wsX5_ask (wsV RX5 138 RX5 yX5_remember wsX5_remember) := goodIn_app (goodIn_of _ (by decide +kernel)) ggX5_ask_X5_remember
set_option maxRecDepth 20000 in
theorem ggX5_ask_X5_asked : GoodIn wsX5_ask wsX5_asked := goodIn_r _ [35, 15, 36, 37, 38, 5, 39, 40, 41, 42, 43, 44, 45, 46, 47, 48, 49, 50, 51, 52, 53, 54, 55, 56, 57, 58, 59, 60, 61, 62, 63, 64, 65, 66] (by decide +kernel) (by decide +kernel)
set_option maxRecDepth 20000 in
theorem gX5_ask_X5_asked : GoodIn wsX5_ask (wsV RX5 118 RX5 yX5_asked wsX5_asked) := goodIn_app (goodIn_of _ (by decide +kernel)) ggX5_ask_X5_asked
theorem dX5_ask_0 : decode cX5_ask 0 = .ok (.aload_n 0, 1) := by decide +kernel
theorem dX5_ask_1 : decode cX5_ask 1 = .ok (.aload_n 0, 1) := by decide +kernel
theorem dX5_ask_2 : decode cX5_ask 2 = .ok (.iload_n 1, 1) := by decide +kernel
theorem dX5_ask_3 : decode cX5_ask 3 = .ok (.iload_n 2, 1) := by decide +kernel
theorem dX5_ask_4 : decode cX5_ask 4 = .ok (.invokevirtual 150, 3) := by decide +kernel
theorem dX5_ask_7 : decode cX5_ask 7 = .ok (.putfield 38, 3) := by decide +kernel
theorem dX5_ask_10 : decode cX5_ask 10 = .ok (.aload_n 0, 1) := by decide +kernel
theorem dX5_ask_11 : decode cX5_ask 11 = .ok (.getfield 38, 3) := by decide +kernel
theorem dX5_ask_14 : decode cX5_ask 14 = .ok (.ifCond .le 5, 3) := by decide +kernel
theorem dX5_ask_17 : decode cX5_ask 17 = .ok (.iconst 0, 1) := by decide +kernel
theorem dX5_ask_18 : decode cX5_ask 18 = .ok (.ireturn, 1) := by decide +kernel
theorem dX5_ask_19 : decode cX5_ask 19 = .ok (.aload_n 0, 1) := by decide +kernel
theorem dX5_ask_20 : decode cX5_ask 20 = .ok (.invokevirtual 138, 3) := by decide +kernel
theorem dX5_ask_23 : decode cX5_ask 23 = .ok (.aload_n 0, 1) := by decide +kernel
theorem dX5_ask_24 : decode cX5_ask 24 = .ok (.iload_n 1, 1) := by decide +kernel
theorem dX5_ask_25 : decode cX5_ask 25 = .ok (.iload_n 2, 1) := by decide +kernel
theorem dX5_ask_26 : decode cX5_ask 26 = .ok (.invokevirtual 118, 3) := by decide +kernel
theorem dX5_ask_29 : decode cX5_ask 29 = .ok (.ireturn, 1) := by decide +kernel
set_option maxRecDepth 20000 in
theorem ggX5_forget_X5_isAnswer : GoodIn wsX5_forget wsX5_isAnswer := goodIn_r _ [7, 2, 8, 9, 6, 10, 24, 25, 26, 27, 28, 29, 30, 31, 32, 33, 34] (by decide +kernel) (by decide +kernel)
set_option maxRecDepth 20000 in
theorem gX5_forget_X5_isAnswer : GoodIn wsX5_forget (wsV RX5 128 RX5 yX5_isAnswer wsX5_isAnswer) := goodIn_app (goodIn_of _ (by decide +kernel)) ggX5_forget_X5_isAnswer
set_option maxRecDepth 20000 in
theorem ggX5_forget_X5_remember : GoodIn wsX5_forget wsX5_remember := goodIn_r _ [14, 15, 16, 2, 17, 18, 6, 19, 24, 25, 26, 27, 28, 29, 30, 31, 32, 33, 34] (by decide +kernel) (by decide +kernel)
set_option maxRecDepth 20000 in
theorem gX5_forget_X5_remember : GoodIn wsX5_forget (wsV RX5 138 RX5 yX5_remember wsX5_remember) := goodIn_app (goodIn_of _ (by decide +kernel)) ggX5_forget_X5_remember
set_option maxRecDepth 20000 in
theorem ggX5_forget_X5_forgetOne : GoodIn wsX5_forget wsX5_forgetOne := goodIn_r _ [23, 2, 24, 25, 26, 27, 28, 29, 30, 31, 32, 33, 34] (by decide +kernel) (by decide +kernel)
set_option maxRecDepth 20000 in
theorem gX5_forget_X5_forgetOne : GoodIn wsX5_forget (wsV RX5 135 RX5 yX5_forgetOne wsX5_forgetOne) := goodIn_app (goodIn_of _ (by decide +kernel)) ggX5_forget_X5_forgetOne
theorem dX5_forget_0 : decode cX5_forget 0 = .ok (.aload_n 0, 1) := by decide +kernel
theorem dX5_forget_1 : decode cX5_forget 1 = .ok (.aload_n 0, 1) := by decide +kernel
theorem dX5_forget_2 : decode cX5_forget 2 = .ok (.iload_n 1, 1) := by decide +kernel
theorem dX5_forget_3 : decode cX5_forget 3 = .ok (.invokevirtual 128, 3) := by decide +kernel
theorem dX5_forget_6 : decode cX5_forget 6 = .ok (.ifCond .eq 7, 3) := by decide +kernel
theorem dX5_forget_9 : decode cX5_forget 9 = .ok (.iconst 0, 1) := by decide +kernel
theorem dX5_forget_10 : decode cX5_forget 10 = .ok (.goto 4, 3) := by decide +kernel
theorem dX5_forget_13 : decode cX5_forget 13 = .ok (.iconst 1, 1) := by decide +kernel
theorem dX5_forget_14 : decode cX5_forget 14 = .ok (.putfield 38, 3) := by decide +kernel
theorem dX5_forget_17 : decode cX5_forget 17 = .ok (.aload_n 0, 1) := by decide +kernel
theorem dX5_forget_18 : decode cX5_forget 18 = .ok (.getfield 38, 3) := by decide +kernel
theorem dX5_forget_21 : decode cX5_forget 21 = .ok (.ifCond .le 5, 3) := by decide +kernel
theorem dX5_forget_24 : decode cX5_forget 24 = .ok (.iconst 0, 1) := by decide +kernel
theorem dX5_forget_25 : decode cX5_forget 25 = .ok (.ireturn, 1) := by decide +kernel
theorem dX5_forget_26 : decode cX5_forget 26 = .ok (.aload_n 0, 1) := by decide +kernel
theorem dX5_forget_27 : decode cX5_forget 27 = .ok (.invokevirtual 138, 3) := by decide +kernel
theorem dX5_forget_30 : decode cX5_forget 30 = .ok (.aload_n 0, 1) := by decide +kernel
theorem dX5_forget_31 : decode cX5_forget 31 = .ok (.iload_n 1, 1) := by decide +kernel
theorem dX5_forget_32 : decode cX5_forget 32 = .ok (.invokevirtual 135, 3) := by decide +kernel
theorem dX5_forget_35 : decode cX5_forget 35 = .ok (.aload_n 0, 1) := by decide +kernel
theorem dX5_forget_36 : decode cX5_forget 36 = .ok (.getfield 7, 3) := by decide +kernel
theorem dX5_forget_39 : decode cX5_forget 39 = .ok (.iconst 4, 1) := by decide +kernel
theorem dX5_forget_40 : decode cX5_forget 40 = .ok (.iaload, 1) := by decide +kernel
theorem dX5_forget_41 : decode cX5_forget 41 = .ok (.ireturn, 1) := by decide +kernel
set_option maxRecDepth 20000 in
theorem ggX5_resize_X5_within : GoodIn wsX5_resize wsX5_within := goodIn_r _ [6] (by decide +kernel) (by decide +kernel)
set_option maxRecDepth 20000 in
theorem gX5_resize_X5_within : GoodIn wsX5_resize (va_wsS RX5 42 yX5_within wsX5_within) := goodIn_app (goodIn_of _ (by decide +kernel)) ggX5_resize_X5_within
set_option maxRecDepth 20000 in
theorem ggX5_resize_X5_remember : GoodIn wsX5_resize wsX5_remember := goodIn_r _ [10, 11, 12, 2, 13, 14, 5, 15, 24, 25, 26, 27, 28, 29, 30, 31, 32, 33, 34] (by decide +kernel) (by decide +kernel)
set_option maxRecDepth 20000 in
theorem gX5_resize_X5_remember : GoodIn wsX5_resize (wsV RX5 138 RX5 yX5_remember wsX5_remember) := goodIn_app (goodIn_of _ (by decide +kernel)) ggX5_resize_X5_remember
set_option maxRecDepth 20000 in
theorem ggX5_resize_X5_forgetAll : GoodIn wsX5_resize wsX5_forgetAll := goodIn_r _ [19, 2, 24, 25, 26, 27, 28, 29, 30, 31, 32, 33, 34] (by decide +kernel) (by decide +kernel)
set_option maxRecDepth 20000 in
theorem gX5_resize_X5_forgetAll : GoodIn wsX5_resize (wsV RX5 141 RX5 yX5_forgetAll wsX5_forgetAll) := goodIn_app (goodIn_of _ (by decide +kernel)) ggX5_resize_X5_forgetAll
set_option maxRecDepth 20000 in
theorem ggX5_resize_X5_keysIn : GoodIn wsX5_resize wsX5_keysIn := goodIn_r _ [23, 2, 24, 25, 26, 27, 28, 29, 30, 31, 32, 33, 34] (by decide +kernel) (by decide +kernel)
set_option maxRecDepth 20000 in
theorem gX5_resize_X5_keysIn : GoodIn wsX5_resize (wsV RX5 121 RX5 yX5_keysIn wsX5_keysIn) := goodIn_app (goodIn_of _ (by decide +kernel)) ggX5_resize_X5_keysIn
theorem dX5_resize_0 : decode cX5_resize 0 = .ok (.aload_n 0, 1) := by decide +kernel
theorem dX5_resize_1 : decode cX5_resize 1 = .ok (.iload_n 1, 1) := by decide +kernel
theorem dX5_resize_2 : decode cX5_resize 2 = .ok (.bipush 8, 2) := by decide +kernel
theorem dX5_resize_4 : decode cX5_resize 4 = .ok (.bipush 40, 2) := by decide +kernel
theorem dX5_resize_6 : decode cX5_resize 6 = .ok (.invokestatic 42, 3) := by decide +kernel
theorem dX5_resize_9 : decode cX5_resize 9 = .ok (.ifCond .eq 7, 3) := by decide +kernel
theorem dX5_resize_12 : decode cX5_resize 12 = .ok (.iconst 0, 1) := by decide +kernel
theorem dX5_resize_13 : decode cX5_resize 13 = .ok (.goto 4, 3) := by decide +kernel
theorem dX5_resize_16 : decode cX5_resize 16 = .ok (.iconst 1, 1) := by decide +kernel
theorem dX5_resize_17 : decode cX5_resize 17 = .ok (.putfield 38, 3) := by decide +kernel
theorem dX5_resize_20 : decode cX5_resize 20 = .ok (.aload_n 0, 1) := by decide +kernel
theorem dX5_resize_21 : decode cX5_resize 21 = .ok (.getfield 38, 3) := by decide +kernel
theorem dX5_resize_24 : decode cX5_resize 24 = .ok (.ifCond .le 5, 3) := by decide +kernel
theorem dX5_resize_27 : decode cX5_resize 27 = .ok (.iconst 0, 1) := by decide +kernel
theorem dX5_resize_28 : decode cX5_resize 28 = .ok (.ireturn, 1) := by decide +kernel
theorem dX5_resize_29 : decode cX5_resize 29 = .ok (.aload_n 0, 1) := by decide +kernel
theorem dX5_resize_30 : decode cX5_resize 30 = .ok (.invokevirtual 138, 3) := by decide +kernel
theorem dX5_resize_33 : decode cX5_resize 33 = .ok (.aload_n 0, 1) := by decide +kernel
theorem dX5_resize_34 : decode cX5_resize 34 = .ok (.invokevirtual 141, 3) := by decide +kernel
theorem dX5_resize_37 : decode cX5_resize 37 = .ok (.iload_n 1, 1) := by decide +kernel
theorem dX5_resize_38 : decode cX5_resize 38 = .ok (.istore_n 2, 1) := by decide +kernel
theorem dX5_resize_39 : decode cX5_resize 39 = .ok (.iload_n 2, 1) := by decide +kernel
theorem dX5_resize_40 : decode cX5_resize 40 = .ok (.bipush 40, 2) := by decide +kernel
theorem dX5_resize_42 : decode cX5_resize 42 = .ok (.if_icmp .ge 19, 3) := by decide +kernel
theorem dX5_resize_45 : decode cX5_resize 45 = .ok (.aload_n 0, 1) := by decide +kernel
theorem dX5_resize_46 : decode cX5_resize 46 = .ok (.getfield 7, 3) := by decide +kernel
theorem dX5_resize_49 : decode cX5_resize 49 = .ok (.bipush 8, 2) := by decide +kernel
theorem dX5_resize_51 : decode cX5_resize 51 = .ok (.iload_n 2, 1) := by decide +kernel
theorem dX5_resize_52 : decode cX5_resize 52 = .ok (.iadd, 1) := by decide +kernel
theorem dX5_resize_53 : decode cX5_resize 53 = .ok (.iconst 0, 1) := by decide +kernel
theorem dX5_resize_54 : decode cX5_resize 54 = .ok (.iastore, 1) := by decide +kernel
theorem dX5_resize_55 : decode cX5_resize 55 = .ok (.iinc 2 1, 3) := by decide +kernel
theorem dX5_resize_58 : decode cX5_resize 58 = .ok (.goto (-19), 3) := by decide +kernel
theorem dX5_resize_61 : decode cX5_resize 61 = .ok (.aload_n 0, 1) := by decide +kernel
theorem dX5_resize_62 : decode cX5_resize 62 = .ok (.getfield 7, 3) := by decide +kernel
theorem dX5_resize_65 : decode cX5_resize 65 = .ok (.iconst 0, 1) := by decide +kernel
theorem dX5_resize_66 : decode cX5_resize 66 = .ok (.iload_n 1, 1) := by decide +kernel
theorem dX5_resize_67 : decode cX5_resize 67 = .ok (.iastore, 1) := by decide +kernel
theorem dX5_resize_68 : decode cX5_resize 68 = .ok (.aload_n 0, 1) := by decide +kernel
theorem dX5_resize_69 : decode cX5_resize 69 = .ok (.iconst 0, 1) := by decide +kernel
theorem dX5_resize_70 : decode cX5_resize 70 = .ok (.iload_n 1, 1) := by decide +kernel
theorem dX5_resize_71 : decode cX5_resize 71 = .ok (.iconst 1, 1) := by decide +kernel
theorem dX5_resize_72 : decode cX5_resize 72 = .ok (.isub, 1) := by decide +kernel
theorem dX5_resize_73 : decode cX5_resize 73 = .ok (.invokevirtual 121, 3) := by decide +kernel
theorem dX5_resize_76 : decode cX5_resize 76 = .ok (.ireturn, 1) := by decide +kernel
set_option maxRecDepth 20000 in
theorem ggX5_undo_X5_copy : GoodIn wsX5_undo wsX5_copy := goodIn_r _ [8] (by decide +kernel) (by decide +kernel)
set_option maxRecDepth 20000 in
theorem gX5_undo_X5_copy : GoodIn wsX5_undo (va_wsS RX5 131 yX5_copy wsX5_copy) := goodIn_app (goodIn_of _ (by decide +kernel)) ggX5_undo_X5_copy
theorem dX5_undo_0 : decode cX5_undo 0 = .ok (.aload_n 0, 1) := by decide +kernel
theorem dX5_undo_1 : decode cX5_undo 1 = .ok (.aload_n 0, 1) := by decide +kernel
theorem dX5_undo_2 : decode cX5_undo 2 = .ok (.getfield 105, 3) := by decide +kernel
theorem dX5_undo_5 : decode cX5_undo 5 = .ok (.ifCond .le 7, 3) := by decide +kernel
theorem dX5_undo_8 : decode cX5_undo 8 = .ok (.iconst 0, 1) := by decide +kernel
theorem dX5_undo_9 : decode cX5_undo 9 = .ok (.goto 4, 3) := by decide +kernel
theorem dX5_undo_12 : decode cX5_undo 12 = .ok (.iconst 1, 1) := by decide +kernel
theorem dX5_undo_13 : decode cX5_undo 13 = .ok (.putfield 38, 3) := by decide +kernel
theorem dX5_undo_16 : decode cX5_undo 16 = .ok (.aload_n 0, 1) := by decide +kernel
theorem dX5_undo_17 : decode cX5_undo 17 = .ok (.getfield 38, 3) := by decide +kernel
theorem dX5_undo_20 : decode cX5_undo 20 = .ok (.ifCond .le 5, 3) := by decide +kernel
theorem dX5_undo_23 : decode cX5_undo 23 = .ok (.iconst 0, 1) := by decide +kernel
theorem dX5_undo_24 : decode cX5_undo 24 = .ok (.ireturn, 1) := by decide +kernel
theorem dX5_undo_25 : decode cX5_undo 25 = .ok (.aload_n 0, 1) := by decide +kernel
theorem dX5_undo_26 : decode cX5_undo 26 = .ok (.dup, 1) := by decide +kernel
theorem dX5_undo_27 : decode cX5_undo 27 = .ok (.getfield 105, 3) := by decide +kernel
theorem dX5_undo_30 : decode cX5_undo 30 = .ok (.iconst 1, 1) := by decide +kernel
theorem dX5_undo_31 : decode cX5_undo 31 = .ok (.isub, 1) := by decide +kernel
theorem dX5_undo_32 : decode cX5_undo 32 = .ok (.putfield 105, 3) := by decide +kernel
theorem dX5_undo_35 : decode cX5_undo 35 = .ok (.aload_n 0, 1) := by decide +kernel
theorem dX5_undo_36 : decode cX5_undo 36 = .ok (.getfield 16, 3) := by decide +kernel
theorem dX5_undo_39 : decode cX5_undo 39 = .ok (.aload_n 0, 1) := by decide +kernel
theorem dX5_undo_40 : decode cX5_undo 40 = .ok (.getfield 105, 3) := by decide +kernel
theorem dX5_undo_43 : decode cX5_undo 43 = .ok (.bipush 96, 2) := by decide +kernel
theorem dX5_undo_45 : decode cX5_undo 45 = .ok (.imul, 1) := by decide +kernel
theorem dX5_undo_46 : decode cX5_undo 46 = .ok (.aload_n 0, 1) := by decide +kernel
theorem dX5_undo_47 : decode cX5_undo 47 = .ok (.getfield 7, 3) := by decide +kernel
theorem dX5_undo_50 : decode cX5_undo 50 = .ok (.iconst 0, 1) := by decide +kernel
theorem dX5_undo_51 : decode cX5_undo 51 = .ok (.invokestatic 131, 3) := by decide +kernel
theorem dX5_undo_54 : decode cX5_undo 54 = .ok (.aload_n 0, 1) := by decide +kernel
theorem dX5_undo_55 : decode cX5_undo 55 = .ok (.getfield 105, 3) := by decide +kernel
theorem dX5_undo_58 : decode cX5_undo 58 = .ok (.ireturn, 1) := by decide +kernel
set_option maxRecDepth 20000 in
theorem ggX5_costs_X5_whyNoRange : GoodIn wsX5_costs wsX5_whyNoRange := goodIn_r _ [6, 7, 8, 9, 5, 10, 11, 12, 13, 14, 31, 32, 33, 34, 35, 36, 37, 38, 39, 40, 41] (by decide +kernel) (by decide +kernel)
set_option maxRecDepth 20000 in
theorem gX5_costs_X5_whyNoRange : GoodIn wsX5_costs (wsV RX5 72 RX5 yX5_whyNoRange wsX5_whyNoRange) := goodIn_app (goodIn_of _ (by decide +kernel)) ggX5_costs_X5_whyNoRange
set_option maxRecDepth 20000 in
theorem ggX5_costs_X5_isWide : GoodIn wsX5_costs wsX5_isWide := goodIn_r _ [18, 11, 31, 32, 33, 34, 35, 36, 37, 38, 39, 40, 41] (by decide +kernel) (by decide +kernel)
set_option maxRecDepth 20000 in
theorem gX5_costs_X5_isWide : GoodIn wsX5_costs (wsV RX5 114 RX5 yX5_isWide wsX5_isWide) := goodIn_app (goodIn_of _ (by decide +kernel)) ggX5_costs_X5_isWide
set_option maxRecDepth 20000 in
theorem ggX5_costs_X5_costOf : GoodIn wsX5_costs wsX5_costOf := goodIn_r _ [22, 11, 23, 24, 25, 5, 26, 27, 28, 29, 30, 31, 32, 33, 34, 35, 36, 37, 38, 39, 40, 41] (by decide +kernel) (by decide +kernel)
set_option maxRecDepth 20000 in
theorem gX5_costs_X5_costOf : GoodIn wsX5_costs (wsV RX5 147 RX5 yX5_costOf wsX5_costOf) := goodIn_app (goodIn_of _ (by decide +kernel)) ggX5_costs_X5_costOf
theorem dX5_costs_0 : decode cX5_costs 0 = .ok (.aload_n 0, 1) := by decide +kernel
theorem dX5_costs_1 : decode cX5_costs 1 = .ok (.aload_n 0, 1) := by decide +kernel
theorem dX5_costs_2 : decode cX5_costs 2 = .ok (.iload_n 1, 1) := by decide +kernel
theorem dX5_costs_3 : decode cX5_costs 3 = .ok (.iload_n 2, 1) := by decide +kernel
theorem dX5_costs_4 : decode cX5_costs 4 = .ok (.invokevirtual 72, 3) := by decide +kernel
theorem dX5_costs_7 : decode cX5_costs 7 = .ok (.putfield 38, 3) := by decide +kernel
theorem dX5_costs_10 : decode cX5_costs 10 = .ok (.aload_n 0, 1) := by decide +kernel
theorem dX5_costs_11 : decode cX5_costs 11 = .ok (.getfield 38, 3) := by decide +kernel
theorem dX5_costs_14 : decode cX5_costs 14 = .ok (.ifCond .le 5, 3) := by decide +kernel
theorem dX5_costs_17 : decode cX5_costs 17 = .ok (.iconst 0, 1) := by decide +kernel
theorem dX5_costs_18 : decode cX5_costs 18 = .ok (.ireturn, 1) := by decide +kernel
theorem dX5_costs_19 : decode cX5_costs 19 = .ok (.aload_n 0, 1) := by decide +kernel
theorem dX5_costs_20 : decode cX5_costs 20 = .ok (.iload_n 1, 1) := by decide +kernel
theorem dX5_costs_21 : decode cX5_costs 21 = .ok (.iload_n 2, 1) := by decide +kernel
theorem dX5_costs_22 : decode cX5_costs 22 = .ok (.invokevirtual 114, 3) := by decide +kernel
theorem dX5_costs_25 : decode cX5_costs 25 = .ok (.ifCond .eq 12, 3) := by decide +kernel
theorem dX5_costs_28 : decode cX5_costs 28 = .ok (.aload_n 0, 1) := by decide +kernel
theorem dX5_costs_29 : decode cX5_costs 29 = .ok (.iload_n 1, 1) := by decide +kernel
theorem dX5_costs_30 : decode cX5_costs 30 = .ok (.iload_n 2, 1) := by decide +kernel
theorem dX5_costs_31 : decode cX5_costs 31 = .ok (.invokevirtual 147, 3) := by decide +kernel
theorem dX5_costs_34 : decode cX5_costs 34 = .ok (.goto 4, 3) := by decide +kernel
theorem dX5_costs_37 : decode cX5_costs 37 = .ok (.iconst (-1), 1) := by decide +kernel
theorem dX5_costs_38 : decode cX5_costs 38 = .ok (.ireturn, 1) := by decide +kernel
set_option maxRecDepth 20000 in
theorem ggX5_bestQuestion_X5_findBounds : GoodIn wsX5_bestQuestion wsX5_findBounds := goodIn_r _ [8, 2, 3, 9, 10, 11, 7, 12, 13, 14, 15, 16, 17, 18, 37, 38, 39, 40, 41, 42, 43, 44, 45, 46, 47] (by decide +kernel) (by decide +kernel)
set_option maxRecDepth 20000 in
theorem gX5_bestQuestion_X5_findBounds : GoodIn wsX5_bestQuestion (wsV RX5 75 RX5 yX5_findBounds wsX5_findBounds) := goodIn_app (goodIn_of _ (by decide +kernel)) ggX5_bestQuestion_X5_findBounds
set_option maxRecDepth 20000 in
theorem ggX5_bestQuestion_X5_isWide : GoodIn wsX5_bestQuestion wsX5_isWide := goodIn_r _ [22, 2, 37, 38, 39, 40, 41, 42, 43, 44, 45, 46, 47] (by decide +kernel) (by decide +kernel)
set_option maxRecDepth 20000 in
theorem gX5_bestQuestion_X5_isWide : GoodIn wsX5_bestQuestion (wsV RX5 114 RX5 yX5_isWide wsX5_isWide) := goodIn_app (goodIn_of _ (by decide +kernel)) ggX5_bestQuestion_X5_isWide
set_option maxRecDepth 20000 in
theorem ggX5_bestQuestion_X5_mostIn : GoodIn wsX5_bestQuestion wsX5_mostIn := goodIn_r _ [25] (by decide +kernel) (by decide +kernel)
set_option maxRecDepth 20000 in
theorem gX5_bestQuestion_X5_mostIn : GoodIn wsX5_bestQuestion (va_wsS RX5 61 yX5_mostIn wsX5_mostIn) := goodIn_app (goodIn_of _ (by decide +kernel)) ggX5_bestQuestion_X5_mostIn
set_option maxRecDepth 20000 in
theorem ggX5_bestQuestion_X5_leastIn : GoodIn wsX5_bestQuestion wsX5_leastIn := goodIn_r _ [28] (by decide +kernel) (by decide +kernel)
set_option maxRecDepth 20000 in
theorem gX5_bestQuestion_X5_leastIn : GoodIn wsX5_bestQuestion (va_wsS RX5 65 yX5_leastIn wsX5_leastIn) := goodIn_app (goodIn_of _ (by decide +kernel)) ggX5_bestQuestion_X5_leastIn
set_option maxRecDepth 20000 in
theorem ggX5_bestQuestion_X5_costOf : GoodIn wsX5_bestQuestion wsX5_costOf := goodIn_r _ [32, 2, 33, 34, 35, 7, 36, 9, 10, 11, 12, 37, 38, 39, 40, 41, 42, 43, 44, 45, 46, 47] (by decide +kernel) (by decide +kernel)
set_option maxRecDepth 20000 in
theorem gX5_bestQuestion_X5_costOf : GoodIn wsX5_bestQuestion (wsV RX5 147 RX5 yX5_costOf wsX5_costOf) := goodIn_app (goodIn_of _ (by decide +kernel)) ggX5_bestQuestion_X5_costOf
theorem dX5_bestQuestion_0 : decode cX5_bestQuestion 0 = .ok (.aload_n 0, 1) := by decide +kernel
theorem dX5_bestQuestion_1 : decode cX5_bestQuestion 1 = .ok (.iconst 0, 1) := by decide +kernel
theorem dX5_bestQuestion_2 : decode cX5_bestQuestion 2 = .ok (.putfield 38, 3) := by decide +kernel
theorem dX5_bestQuestion_5 : decode cX5_bestQuestion 5 = .ok (.aload_n 0, 1) := by decide +kernel
theorem dX5_bestQuestion_6 : decode cX5_bestQuestion 6 = .ok (.iconst (-1), 1) := by decide +kernel
theorem dX5_bestQuestion_7 : decode cX5_bestQuestion 7 = .ok (.invokevirtual 75, 3) := by decide +kernel
theorem dX5_bestQuestion_10 : decode cX5_bestQuestion 10 = .ok (.iconst (-1), 1) := by decide +kernel
theorem dX5_bestQuestion_11 : decode cX5_bestQuestion 11 = .ok (.istore_n 1, 1) := by decide +kernel
theorem dX5_bestQuestion_12 : decode cX5_bestQuestion 12 = .ok (.iconst 0, 1) := by decide +kernel
theorem dX5_bestQuestion_13 : decode cX5_bestQuestion 13 = .ok (.istore_n 2, 1) := by decide +kernel
theorem dX5_bestQuestion_14 : decode cX5_bestQuestion 14 = .ok (.iconst 0, 1) := by decide +kernel
theorem dX5_bestQuestion_15 : decode cX5_bestQuestion 15 = .ok (.istore_n 3, 1) := by decide +kernel
theorem dX5_bestQuestion_16 : decode cX5_bestQuestion 16 = .ok (.iconst 0, 1) := by decide +kernel
theorem dX5_bestQuestion_17 : decode cX5_bestQuestion 17 = .ok (.istore 4, 2) := by decide +kernel
theorem dX5_bestQuestion_19 : decode cX5_bestQuestion 19 = .ok (.iload 4, 2) := by decide +kernel
theorem dX5_bestQuestion_21 : decode cX5_bestQuestion 21 = .ok (.aload_n 0, 1) := by decide +kernel
theorem dX5_bestQuestion_22 : decode cX5_bestQuestion 22 = .ok (.getfield 7, 3) := by decide +kernel
theorem dX5_bestQuestion_25 : decode cX5_bestQuestion 25 = .ok (.iconst 0, 1) := by decide +kernel
theorem dX5_bestQuestion_26 : decode cX5_bestQuestion 26 = .ok (.iaload, 1) := by decide +kernel
theorem dX5_bestQuestion_27 : decode cX5_bestQuestion 27 = .ok (.if_icmp .ge 154, 3) := by decide +kernel
theorem dX5_bestQuestion_30 : decode cX5_bestQuestion 30 = .ok (.iload 4, 2) := by decide +kernel
theorem dX5_bestQuestion_32 : decode cX5_bestQuestion 32 = .ok (.istore 5, 2) := by decide +kernel
theorem dX5_bestQuestion_34 : decode cX5_bestQuestion 34 = .ok (.iload 5, 2) := by decide +kernel
theorem dX5_bestQuestion_36 : decode cX5_bestQuestion 36 = .ok (.aload_n 0, 1) := by decide +kernel
theorem dX5_bestQuestion_37 : decode cX5_bestQuestion 37 = .ok (.getfield 7, 3) := by decide +kernel
theorem dX5_bestQuestion_40 : decode cX5_bestQuestion 40 = .ok (.iconst 0, 1) := by decide +kernel
theorem dX5_bestQuestion_41 : decode cX5_bestQuestion 41 = .ok (.iaload, 1) := by decide +kernel
theorem dX5_bestQuestion_42 : decode cX5_bestQuestion 42 = .ok (.if_icmp .ge 133, 3) := by decide +kernel
theorem dX5_bestQuestion_45 : decode cX5_bestQuestion 45 = .ok (.aload_n 0, 1) := by decide +kernel
theorem dX5_bestQuestion_46 : decode cX5_bestQuestion 46 = .ok (.iload 4, 2) := by decide +kernel
theorem dX5_bestQuestion_48 : decode cX5_bestQuestion 48 = .ok (.iload 5, 2) := by decide +kernel
theorem dX5_bestQuestion_50 : decode cX5_bestQuestion 50 = .ok (.invokevirtual 114, 3) := by decide +kernel
theorem dX5_bestQuestion_53 : decode cX5_bestQuestion 53 = .ok (.ifCond .eq 29, 3) := by decide +kernel
theorem dX5_bestQuestion_56 : decode cX5_bestQuestion 56 = .ok (.aload_n 0, 1) := by decide +kernel
theorem dX5_bestQuestion_57 : decode cX5_bestQuestion 57 = .ok (.getfield 28, 3) := by decide +kernel
theorem dX5_bestQuestion_60 : decode cX5_bestQuestion 60 = .ok (.iload 4, 2) := by decide +kernel
theorem dX5_bestQuestion_62 : decode cX5_bestQuestion 62 = .ok (.iload 5, 2) := by decide +kernel
theorem dX5_bestQuestion_64 : decode cX5_bestQuestion 64 = .ok (.invokestatic 61, 3) := by decide +kernel
theorem dX5_bestQuestion_67 : decode cX5_bestQuestion 67 = .ok (.aload_n 0, 1) := by decide +kernel
theorem dX5_bestQuestion_68 : decode cX5_bestQuestion 68 = .ok (.getfield 28, 3) := by decide +kernel
theorem dX5_bestQuestion_71 : decode cX5_bestQuestion 71 = .ok (.iload 4, 2) := by decide +kernel
theorem dX5_bestQuestion_73 : decode cX5_bestQuestion 73 = .ok (.iload 5, 2) := by decide +kernel
theorem dX5_bestQuestion_75 : decode cX5_bestQuestion 75 = .ok (.invokestatic 65, 3) := by decide +kernel
theorem dX5_bestQuestion_78 : decode cX5_bestQuestion 78 = .ok (.isub, 1) := by decide +kernel
theorem dX5_bestQuestion_79 : decode cX5_bestQuestion 79 = .ok (.goto 4, 3) := by decide +kernel
theorem dX5_bestQuestion_82 : decode cX5_bestQuestion 82 = .ok (.iconst 0, 1) := by decide +kernel
theorem dX5_bestQuestion_83 : decode cX5_bestQuestion 83 = .ok (.istore 6, 2) := by decide +kernel
theorem dX5_bestQuestion_85 : decode cX5_bestQuestion 85 = .ok (.iload 6, 2) := by decide +kernel
theorem dX5_bestQuestion_87 : decode cX5_bestQuestion 87 = .ok (.iload_n 2, 1) := by decide +kernel
theorem dX5_bestQuestion_88 : decode cX5_bestQuestion 88 = .ok (.if_icmp .gt 26, 3) := by decide +kernel
theorem dX5_bestQuestion_91 : decode cX5_bestQuestion 91 = .ok (.iload 6, 2) := by decide +kernel
theorem dX5_bestQuestion_93 : decode cX5_bestQuestion 93 = .ok (.ifCond .le 25, 3) := by decide +kernel
theorem dX5_bestQuestion_96 : decode cX5_bestQuestion 96 = .ok (.iload 6, 2) := by decide +kernel
theorem dX5_bestQuestion_98 : decode cX5_bestQuestion 98 = .ok (.iload_n 2, 1) := by decide +kernel
theorem dX5_bestQuestion_99 : decode cX5_bestQuestion 99 = .ok (.if_icmp .ne 19, 3) := by decide +kernel
theorem dX5_bestQuestion_102 : decode cX5_bestQuestion 102 = .ok (.aload_n 0, 1) := by decide +kernel
theorem dX5_bestQuestion_103 : decode cX5_bestQuestion 103 = .ok (.iload 4, 2) := by decide +kernel
theorem dX5_bestQuestion_105 : decode cX5_bestQuestion 105 = .ok (.iload 5, 2) := by decide +kernel
theorem dX5_bestQuestion_107 : decode cX5_bestQuestion 107 = .ok (.invokevirtual 147, 3) := by decide +kernel
theorem dX5_bestQuestion_110 : decode cX5_bestQuestion 110 = .ok (.iload_n 3, 1) := by decide +kernel
theorem dX5_bestQuestion_111 : decode cX5_bestQuestion 111 = .ok (.if_icmp .ge 7, 3) := by decide +kernel
theorem dX5_bestQuestion_114 : decode cX5_bestQuestion 114 = .ok (.iconst 1, 1) := by decide +kernel
theorem dX5_bestQuestion_115 : decode cX5_bestQuestion 115 = .ok (.goto 4, 3) := by decide +kernel
theorem dX5_bestQuestion_118 : decode cX5_bestQuestion 118 = .ok (.iconst 0, 1) := by decide +kernel
theorem dX5_bestQuestion_119 : decode cX5_bestQuestion 119 = .ok (.istore 7, 2) := by decide +kernel
theorem dX5_bestQuestion_121 : decode cX5_bestQuestion 121 = .ok (.iload 7, 2) := by decide +kernel
theorem dX5_bestQuestion_123 : decode cX5_bestQuestion 123 = .ok (.ifCond .eq 14, 3) := by decide +kernel
theorem dX5_bestQuestion_126 : decode cX5_bestQuestion 126 = .ok (.bipush 100, 2) := by decide +kernel
theorem dX5_bestQuestion_128 : decode cX5_bestQuestion 128 = .ok (.iload 4, 2) := by decide +kernel
theorem dX5_bestQuestion_130 : decode cX5_bestQuestion 130 = .ok (.imul, 1) := by decide +kernel
theorem dX5_bestQuestion_131 : decode cX5_bestQuestion 131 = .ok (.iload 5, 2) := by decide +kernel
theorem dX5_bestQuestion_133 : decode cX5_bestQuestion 133 = .ok (.iadd, 1) := by decide +kernel
theorem dX5_bestQuestion_134 : decode cX5_bestQuestion 134 = .ok (.goto 4, 3) := by decide +kernel
theorem dX5_bestQuestion_137 : decode cX5_bestQuestion 137 = .ok (.iload_n 1, 1) := by decide +kernel
theorem dX5_bestQuestion_138 : decode cX5_bestQuestion 138 = .ok (.istore_n 1, 1) := by decide +kernel
theorem dX5_bestQuestion_139 : decode cX5_bestQuestion 139 = .ok (.iload 7, 2) := by decide +kernel
theorem dX5_bestQuestion_141 : decode cX5_bestQuestion 141 = .ok (.ifCond .eq 8, 3) := by decide +kernel
theorem dX5_bestQuestion_144 : decode cX5_bestQuestion 144 = .ok (.iload 6, 2) := by decide +kernel
theorem dX5_bestQuestion_146 : decode cX5_bestQuestion 146 = .ok (.goto 4, 3) := by decide +kernel
theorem dX5_bestQuestion_149 : decode cX5_bestQuestion 149 = .ok (.iload_n 2, 1) := by decide +kernel
theorem dX5_bestQuestion_150 : decode cX5_bestQuestion 150 = .ok (.istore_n 2, 1) := by decide +kernel
theorem dX5_bestQuestion_151 : decode cX5_bestQuestion 151 = .ok (.iload 7, 2) := by decide +kernel
theorem dX5_bestQuestion_153 : decode cX5_bestQuestion 153 = .ok (.ifCond .eq 14, 3) := by decide +kernel
theorem dX5_bestQuestion_156 : decode cX5_bestQuestion 156 = .ok (.aload_n 0, 1) := by decide +kernel
theorem dX5_bestQuestion_157 : decode cX5_bestQuestion 157 = .ok (.iload 4, 2) := by decide +kernel
theorem dX5_bestQuestion_159 : decode cX5_bestQuestion 159 = .ok (.iload 5, 2) := by decide +kernel
theorem dX5_bestQuestion_161 : decode cX5_bestQuestion 161 = .ok (.invokevirtual 147, 3) := by decide +kernel
theorem dX5_bestQuestion_164 : decode cX5_bestQuestion 164 = .ok (.goto 4, 3) := by decide +kernel
theorem dX5_bestQuestion_167 : decode cX5_bestQuestion 167 = .ok (.iload_n 3, 1) := by decide +kernel
theorem dX5_bestQuestion_168 : decode cX5_bestQuestion 168 = .ok (.istore_n 3, 1) := by decide +kernel
theorem dX5_bestQuestion_169 : decode cX5_bestQuestion 169 = .ok (.iinc 5 1, 3) := by decide +kernel
theorem dX5_bestQuestion_172 : decode cX5_bestQuestion 172 = .ok (.goto (-138), 3) := by decide +kernel
theorem dX5_bestQuestion_175 : decode cX5_bestQuestion 175 = .ok (.iinc 4 1, 3) := by decide +kernel
theorem dX5_bestQuestion_178 : decode cX5_bestQuestion 178 = .ok (.goto (-159), 3) := by decide +kernel
theorem dX5_bestQuestion_181 : decode cX5_bestQuestion 181 = .ok (.iload_n 1, 1) := by decide +kernel
theorem dX5_bestQuestion_182 : decode cX5_bestQuestion 182 = .ok (.ireturn, 1) := by decide +kernel
set_option maxRecDepth 20000 in
theorem ggX5_knownWith_X5_bindAnswer : GoodIn wsX5_knownWith wsX5_bindAnswer := goodIn_r _ [7, 8, 9, 6, 10] (by decide +kernel) (by decide +kernel)
set_option maxRecDepth 20000 in
theorem gX5_knownWith_X5_bindAnswer : GoodIn wsX5_knownWith (va_wsS RX5 57 yX5_bindAnswer wsX5_bindAnswer) := goodIn_app (goodIn_of _ (by decide +kernel)) ggX5_knownWith_X5_bindAnswer
set_option maxRecDepth 20000 in
theorem ggX5_knownWith_X5_knownIn : GoodIn wsX5_knownWith wsX5_knownIn := goodIn_r _ [14, 3, 15, 16, 6, 17, 18, 19, 20, 21, 22, 23, 24, 25, 26, 27, 28, 29, 30, 31] (by decide +kernel) (by decide +kernel)
set_option maxRecDepth 20000 in
theorem gX5_knownWith_X5_knownIn : GoodIn wsX5_knownWith (wsV RX5 124 RX5 yX5_knownIn wsX5_knownIn) := goodIn_app (goodIn_of _ (by decide +kernel)) ggX5_knownWith_X5_knownIn
theorem dX5_knownWith_0 : decode cX5_knownWith 0 = .ok (.iconst 0, 1) := by decide +kernel
theorem dX5_knownWith_1 : decode cX5_knownWith 1 = .ok (.istore 4, 2) := by decide +kernel
theorem dX5_knownWith_3 : decode cX5_knownWith 3 = .ok (.iload 4, 2) := by decide +kernel
theorem dX5_knownWith_5 : decode cX5_knownWith 5 = .ok (.sipush 1681, 3) := by decide +kernel
theorem dX5_knownWith_8 : decode cX5_knownWith 8 = .ok (.if_icmp .ge 23, 3) := by decide +kernel
theorem dX5_knownWith_11 : decode cX5_knownWith 11 = .ok (.aload_n 0, 1) := by decide +kernel
theorem dX5_knownWith_12 : decode cX5_knownWith 12 = .ok (.getfield 31, 3) := by decide +kernel
theorem dX5_knownWith_15 : decode cX5_knownWith 15 = .ok (.iload 4, 2) := by decide +kernel
theorem dX5_knownWith_17 : decode cX5_knownWith 17 = .ok (.aload_n 0, 1) := by decide +kernel
theorem dX5_knownWith_18 : decode cX5_knownWith 18 = .ok (.getfield 28, 3) := by decide +kernel
theorem dX5_knownWith_21 : decode cX5_knownWith 21 = .ok (.iload 4, 2) := by decide +kernel
theorem dX5_knownWith_23 : decode cX5_knownWith 23 = .ok (.iaload, 1) := by decide +kernel
theorem dX5_knownWith_24 : decode cX5_knownWith 24 = .ok (.iastore, 1) := by decide +kernel
theorem dX5_knownWith_25 : decode cX5_knownWith 25 = .ok (.iinc 4 1, 3) := by decide +kernel
theorem dX5_knownWith_28 : decode cX5_knownWith 28 = .ok (.goto (-25), 3) := by decide +kernel
theorem dX5_knownWith_31 : decode cX5_knownWith 31 = .ok (.aload_n 0, 1) := by decide +kernel
theorem dX5_knownWith_32 : decode cX5_knownWith 32 = .ok (.getfield 31, 3) := by decide +kernel
theorem dX5_knownWith_35 : decode cX5_knownWith 35 = .ok (.iload_n 1, 1) := by decide +kernel
theorem dX5_knownWith_36 : decode cX5_knownWith 36 = .ok (.iload_n 2, 1) := by decide +kernel
theorem dX5_knownWith_37 : decode cX5_knownWith 37 = .ok (.iload_n 3, 1) := by decide +kernel
theorem dX5_knownWith_38 : decode cX5_knownWith 38 = .ok (.aload_n 0, 1) := by decide +kernel
theorem dX5_knownWith_39 : decode cX5_knownWith 39 = .ok (.getfield 7, 3) := by decide +kernel
theorem dX5_knownWith_42 : decode cX5_knownWith 42 = .ok (.iconst 2, 1) := by decide +kernel
theorem dX5_knownWith_43 : decode cX5_knownWith 43 = .ok (.iaload, 1) := by decide +kernel
theorem dX5_knownWith_44 : decode cX5_knownWith 44 = .ok (.invokestatic 57, 3) := by decide +kernel
theorem dX5_knownWith_47 : decode cX5_knownWith 47 = .ok (.aload_n 0, 1) := by decide +kernel
theorem dX5_knownWith_48 : decode cX5_knownWith 48 = .ok (.aload_n 0, 1) := by decide +kernel
theorem dX5_knownWith_49 : decode cX5_knownWith 49 = .ok (.getfield 31, 3) := by decide +kernel
theorem dX5_knownWith_52 : decode cX5_knownWith 52 = .ok (.invokevirtual 124, 3) := by decide +kernel
theorem dX5_knownWith_55 : decode cX5_knownWith 55 = .ok (.ireturn, 1) := by decide +kernel
set_option maxRecDepth 20000 in
theorem ggX5_worst_X5_whyNoRange : GoodIn wsX5_worst wsX5_whyNoRange := goodIn_r _ [8, 9, 10, 11, 7, 12, 3, 13, 14, 15, 49, 50, 51, 52, 53, 54, 55, 56, 57, 58, 59] (by decide +kernel) (by decide +kernel)
set_option maxRecDepth 20000 in
theorem gX5_worst_X5_whyNoRange : GoodIn wsX5_worst (wsV RX5 72 RX5 yX5_whyNoRange wsX5_whyNoRange) := goodIn_app (goodIn_of _ (by decide +kernel)) ggX5_worst_X5_whyNoRange
set_option maxRecDepth 20000 in
theorem ggX5_worst_X5_isWide : GoodIn wsX5_worst wsX5_isWide := goodIn_r _ [19, 3, 49, 50, 51, 52, 53, 54, 55, 56, 57, 58, 59] (by decide +kernel) (by decide +kernel)
set_option maxRecDepth 20000 in
theorem gX5_worst_X5_isWide : GoodIn wsX5_worst (wsV RX5 114 RX5 yX5_isWide wsX5_isWide) := goodIn_app (goodIn_of _ (by decide +kernel)) ggX5_worst_X5_isWide
set_option maxRecDepth 20000 in
theorem ggX5_worst_X5_findBounds : GoodIn wsX5_worst wsX5_findBounds := goodIn_r _ [23, 3, 2, 24, 25, 26, 7, 27, 28, 29, 30, 31, 32, 33, 49, 50, 51, 52, 53, 54, 55, 56, 57, 58, 59] (by decide +kernel) (by decide +kernel)
set_option maxRecDepth 20000 in
theorem gX5_worst_X5_findBounds : GoodIn wsX5_worst (wsV RX5 75 RX5 yX5_findBounds wsX5_findBounds) := goodIn_app (goodIn_of _ (by decide +kernel)) ggX5_worst_X5_findBounds
set_option maxRecDepth 20000 in
theorem ggX5_worst_X5_leastIn : GoodIn wsX5_worst wsX5_leastIn := goodIn_r _ [36] (by decide +kernel) (by decide +kernel)
set_option maxRecDepth 20000 in
theorem gX5_worst_X5_leastIn : GoodIn wsX5_worst (va_wsS RX5 65 yX5_leastIn wsX5_leastIn) := goodIn_app (goodIn_of _ (by decide +kernel)) ggX5_worst_X5_leastIn
set_option maxRecDepth 20000 in
theorem ggX5_worst_X5_mostIn : GoodIn wsX5_worst wsX5_mostIn := goodIn_r _ [39] (by decide +kernel) (by decide +kernel)
set_option maxRecDepth 20000 in
theorem gX5_worst_X5_mostIn : GoodIn wsX5_worst (va_wsS RX5 61 yX5_mostIn wsX5_mostIn) := goodIn_app (goodIn_of _ (by decide +kernel)) ggX5_worst_X5_mostIn
set_option maxRecDepth 20000 in
theorem ggX5_worst_X5_knownWith : GoodIn wsX5_worst wsX5_knownWith := goodIn_r _ [43, 44, 2, 3, 28, 29, 7, 30, 31, 32, 33, 45, 46, 47, 48, 37, 38, 39, 34, 35, 36, 49, 50, 51, 52, 53, 54, 55, 56, 57, 58, 59] (by decide +kernel) (by decide +kernel)
set_option maxRecDepth 20000 in
theorem gX5_worst_X5_knownWith : GoodIn wsX5_worst (wsV RX5 153 RX5 yX5_knownWith wsX5_knownWith) := goodIn_app (goodIn_of _ (by decide +kernel)) ggX5_worst_X5_knownWith
theorem dX5_worst_0 : decode cX5_worst 0 = .ok (.aload_n 0, 1) := by decide +kernel
theorem dX5_worst_1 : decode cX5_worst 1 = .ok (.aload_n 0, 1) := by decide +kernel
theorem dX5_worst_2 : decode cX5_worst 2 = .ok (.iload_n 1, 1) := by decide +kernel
theorem dX5_worst_3 : decode cX5_worst 3 = .ok (.iload_n 2, 1) := by decide +kernel
theorem dX5_worst_4 : decode cX5_worst 4 = .ok (.invokevirtual 72, 3) := by decide +kernel
theorem dX5_worst_7 : decode cX5_worst 7 = .ok (.putfield 38, 3) := by decide +kernel
theorem dX5_worst_10 : decode cX5_worst 10 = .ok (.aload_n 0, 1) := by decide +kernel
theorem dX5_worst_11 : decode cX5_worst 11 = .ok (.getfield 38, 3) := by decide +kernel
theorem dX5_worst_14 : decode cX5_worst 14 = .ok (.ifCond .gt 12, 3) := by decide +kernel
theorem dX5_worst_17 : decode cX5_worst 17 = .ok (.aload_n 0, 1) := by decide +kernel
theorem dX5_worst_18 : decode cX5_worst 18 = .ok (.iload_n 1, 1) := by decide +kernel
theorem dX5_worst_19 : decode cX5_worst 19 = .ok (.iload_n 2, 1) := by decide +kernel
theorem dX5_worst_20 : decode cX5_worst 20 = .ok (.invokevirtual 114, 3) := by decide +kernel
theorem dX5_worst_23 : decode cX5_worst 23 = .ok (.ifCond .ne 16, 3) := by decide +kernel
theorem dX5_worst_26 : decode cX5_worst 26 = .ok (.aload_n 0, 1) := by decide +kernel
theorem dX5_worst_27 : decode cX5_worst 27 = .ok (.getfield 38, 3) := by decide +kernel
theorem dX5_worst_30 : decode cX5_worst 30 = .ok (.ifCond .le 7, 3) := by decide +kernel
theorem dX5_worst_33 : decode cX5_worst 33 = .ok (.iconst 0, 1) := by decide +kernel
theorem dX5_worst_34 : decode cX5_worst 34 = .ok (.goto 4, 3) := by decide +kernel
theorem dX5_worst_37 : decode cX5_worst 37 = .ok (.iconst (-1), 1) := by decide +kernel
theorem dX5_worst_38 : decode cX5_worst 38 = .ok (.ireturn, 1) := by decide +kernel
theorem dX5_worst_39 : decode cX5_worst 39 = .ok (.aload_n 0, 1) := by decide +kernel
theorem dX5_worst_40 : decode cX5_worst 40 = .ok (.iconst (-1), 1) := by decide +kernel
theorem dX5_worst_41 : decode cX5_worst 41 = .ok (.invokevirtual 75, 3) := by decide +kernel
theorem dX5_worst_44 : decode cX5_worst 44 = .ok (.aload_n 0, 1) := by decide +kernel
theorem dX5_worst_45 : decode cX5_worst 45 = .ok (.getfield 28, 3) := by decide +kernel
theorem dX5_worst_48 : decode cX5_worst 48 = .ok (.iload_n 1, 1) := by decide +kernel
theorem dX5_worst_49 : decode cX5_worst 49 = .ok (.iload_n 2, 1) := by decide +kernel
theorem dX5_worst_50 : decode cX5_worst 50 = .ok (.invokestatic 65, 3) := by decide +kernel
theorem dX5_worst_53 : decode cX5_worst 53 = .ok (.istore_n 3, 1) := by decide +kernel
theorem dX5_worst_54 : decode cX5_worst 54 = .ok (.aload_n 0, 1) := by decide +kernel
theorem dX5_worst_55 : decode cX5_worst 55 = .ok (.getfield 28, 3) := by decide +kernel
theorem dX5_worst_58 : decode cX5_worst 58 = .ok (.iload_n 1, 1) := by decide +kernel
theorem dX5_worst_59 : decode cX5_worst 59 = .ok (.iload_n 2, 1) := by decide +kernel
theorem dX5_worst_60 : decode cX5_worst 60 = .ok (.invokestatic 61, 3) := by decide +kernel
theorem dX5_worst_63 : decode cX5_worst 63 = .ok (.istore 4, 2) := by decide +kernel
theorem dX5_worst_65 : decode cX5_worst 65 = .ok (.bipush 40, 2) := by decide +kernel
theorem dX5_worst_67 : decode cX5_worst 67 = .ok (.istore 5, 2) := by decide +kernel
theorem dX5_worst_69 : decode cX5_worst 69 = .ok (.iload_n 3, 1) := by decide +kernel
theorem dX5_worst_70 : decode cX5_worst 70 = .ok (.istore 6, 2) := by decide +kernel
theorem dX5_worst_72 : decode cX5_worst 72 = .ok (.iload 6, 2) := by decide +kernel
theorem dX5_worst_74 : decode cX5_worst 74 = .ok (.iload 4, 2) := by decide +kernel
theorem dX5_worst_76 : decode cX5_worst 76 = .ok (.if_icmp .gt 51, 3) := by decide +kernel
theorem dX5_worst_79 : decode cX5_worst 79 = .ok (.aload_n 0, 1) := by decide +kernel
theorem dX5_worst_80 : decode cX5_worst 80 = .ok (.iload_n 1, 1) := by decide +kernel
theorem dX5_worst_81 : decode cX5_worst 81 = .ok (.iload_n 2, 1) := by decide +kernel
theorem dX5_worst_82 : decode cX5_worst 82 = .ok (.iload 6, 2) := by decide +kernel
theorem dX5_worst_84 : decode cX5_worst 84 = .ok (.aload_n 0, 1) := by decide +kernel
theorem dX5_worst_85 : decode cX5_worst 85 = .ok (.getfield 7, 3) := by decide +kernel
theorem dX5_worst_88 : decode cX5_worst 88 = .ok (.iconst 2, 1) := by decide +kernel
theorem dX5_worst_89 : decode cX5_worst 89 = .ok (.iaload, 1) := by decide +kernel
theorem dX5_worst_90 : decode cX5_worst 90 = .ok (.if_icmp .ge 8, 3) := by decide +kernel
theorem dX5_worst_93 : decode cX5_worst 93 = .ok (.bipush (-2), 2) := by decide +kernel
theorem dX5_worst_95 : decode cX5_worst 95 = .ok (.goto 5, 3) := by decide +kernel
theorem dX5_worst_98 : decode cX5_worst 98 = .ok (.iload 6, 2) := by decide +kernel
theorem dX5_worst_100 : decode cX5_worst 100 = .ok (.invokevirtual 153, 3) := by decide +kernel
theorem dX5_worst_103 : decode cX5_worst 103 = .ok (.istore 7, 2) := by decide +kernel
theorem dX5_worst_105 : decode cX5_worst 105 = .ok (.iload 7, 2) := by decide +kernel
theorem dX5_worst_107 : decode cX5_worst 107 = .ok (.iload 5, 2) := by decide +kernel
theorem dX5_worst_109 : decode cX5_worst 109 = .ok (.if_icmp .ge 8, 3) := by decide +kernel
theorem dX5_worst_112 : decode cX5_worst 112 = .ok (.iload 7, 2) := by decide +kernel
theorem dX5_worst_114 : decode cX5_worst 114 = .ok (.goto 5, 3) := by decide +kernel
theorem dX5_worst_117 : decode cX5_worst 117 = .ok (.iload 5, 2) := by decide +kernel
theorem dX5_worst_119 : decode cX5_worst 119 = .ok (.istore 5, 2) := by decide +kernel
theorem dX5_worst_121 : decode cX5_worst 121 = .ok (.iinc 6 1, 3) := by decide +kernel
theorem dX5_worst_124 : decode cX5_worst 124 = .ok (.goto (-52), 3) := by decide +kernel
theorem dX5_worst_127 : decode cX5_worst 127 = .ok (.iload 5, 2) := by decide +kernel
theorem dX5_worst_129 : decode cX5_worst 129 = .ok (.ireturn, 1) := by decide +kernel
set_option maxRecDepth 20000 in
theorem ggX5_leastWorth_X5_findBounds : GoodIn wsX5_leastWorth wsX5_findBounds := goodIn_r _ [8, 2, 3, 9, 10, 11, 7, 12, 13, 14, 15, 16, 17, 18, 29, 30, 31, 32, 33, 34, 35, 36, 37, 38, 39] (by decide +kernel) (by decide +kernel)
set_option maxRecDepth 20000 in
theorem gX5_leastWorth_X5_findBounds : GoodIn wsX5_leastWorth (wsV RX5 75 RX5 yX5_findBounds wsX5_findBounds) := goodIn_app (goodIn_of _ (by decide +kernel)) ggX5_leastWorth_X5_findBounds
set_option maxRecDepth 20000 in
theorem ggX5_leastWorth_X5_knownIn : GoodIn wsX5_leastWorth wsX5_knownIn := goodIn_r _ [22, 2, 23, 24, 7, 25, 26, 27, 28, 29, 30, 31, 32, 33, 34, 35, 36, 37, 38, 39] (by decide +kernel) (by decide +kernel)
set_option maxRecDepth 20000 in
theorem gX5_leastWorth_X5_knownIn : GoodIn wsX5_leastWorth (wsV RX5 124 RX5 yX5_knownIn wsX5_knownIn) := goodIn_app (goodIn_of _ (by decide +kernel)) ggX5_leastWorth_X5_knownIn
theorem dX5_leastWorth_0 : decode cX5_leastWorth 0 = .ok (.aload_n 0, 1) := by decide +kernel
theorem dX5_leastWorth_1 : decode cX5_leastWorth 1 = .ok (.iconst 0, 1) := by decide +kernel
theorem dX5_leastWorth_2 : decode cX5_leastWorth 2 = .ok (.putfield 38, 3) := by decide +kernel
theorem dX5_leastWorth_5 : decode cX5_leastWorth 5 = .ok (.iconst (-1), 1) := by decide +kernel
theorem dX5_leastWorth_6 : decode cX5_leastWorth 6 = .ok (.istore_n 1, 1) := by decide +kernel
theorem dX5_leastWorth_7 : decode cX5_leastWorth 7 = .ok (.iconst (-1), 1) := by decide +kernel
theorem dX5_leastWorth_8 : decode cX5_leastWorth 8 = .ok (.istore_n 2, 1) := by decide +kernel
theorem dX5_leastWorth_9 : decode cX5_leastWorth 9 = .ok (.iconst 0, 1) := by decide +kernel
theorem dX5_leastWorth_10 : decode cX5_leastWorth 10 = .ok (.istore_n 3, 1) := by decide +kernel
theorem dX5_leastWorth_11 : decode cX5_leastWorth 11 = .ok (.iload_n 3, 1) := by decide +kernel
theorem dX5_leastWorth_12 : decode cX5_leastWorth 12 = .ok (.aload_n 0, 1) := by decide +kernel
theorem dX5_leastWorth_13 : decode cX5_leastWorth 13 = .ok (.getfield 7, 3) := by decide +kernel
theorem dX5_leastWorth_16 : decode cX5_leastWorth 16 = .ok (.iconst 4, 1) := by decide +kernel
theorem dX5_leastWorth_17 : decode cX5_leastWorth 17 = .ok (.iaload, 1) := by decide +kernel
theorem dX5_leastWorth_18 : decode cX5_leastWorth 18 = .ok (.if_icmp .ge 49, 3) := by decide +kernel
theorem dX5_leastWorth_21 : decode cX5_leastWorth 21 = .ok (.aload_n 0, 1) := by decide +kernel
theorem dX5_leastWorth_22 : decode cX5_leastWorth 22 = .ok (.iload_n 3, 1) := by decide +kernel
theorem dX5_leastWorth_23 : decode cX5_leastWorth 23 = .ok (.invokevirtual 75, 3) := by decide +kernel
theorem dX5_leastWorth_26 : decode cX5_leastWorth 26 = .ok (.aload_n 0, 1) := by decide +kernel
theorem dX5_leastWorth_27 : decode cX5_leastWorth 27 = .ok (.aload_n 0, 1) := by decide +kernel
theorem dX5_leastWorth_28 : decode cX5_leastWorth 28 = .ok (.getfield 28, 3) := by decide +kernel
theorem dX5_leastWorth_31 : decode cX5_leastWorth 31 = .ok (.invokevirtual 124, 3) := by decide +kernel
theorem dX5_leastWorth_34 : decode cX5_leastWorth 34 = .ok (.istore 4, 2) := by decide +kernel
theorem dX5_leastWorth_36 : decode cX5_leastWorth 36 = .ok (.iload 4, 2) := by decide +kernel
theorem dX5_leastWorth_38 : decode cX5_leastWorth 38 = .ok (.iload_n 2, 1) := by decide +kernel
theorem dX5_leastWorth_39 : decode cX5_leastWorth 39 = .ok (.if_icmp .le 7, 3) := by decide +kernel
theorem dX5_leastWorth_42 : decode cX5_leastWorth 42 = .ok (.iload_n 3, 1) := by decide +kernel
theorem dX5_leastWorth_43 : decode cX5_leastWorth 43 = .ok (.goto 4, 3) := by decide +kernel
theorem dX5_leastWorth_46 : decode cX5_leastWorth 46 = .ok (.iload_n 1, 1) := by decide +kernel
theorem dX5_leastWorth_47 : decode cX5_leastWorth 47 = .ok (.istore_n 1, 1) := by decide +kernel
theorem dX5_leastWorth_48 : decode cX5_leastWorth 48 = .ok (.iload 4, 2) := by decide +kernel
theorem dX5_leastWorth_50 : decode cX5_leastWorth 50 = .ok (.iload_n 2, 1) := by decide +kernel
theorem dX5_leastWorth_51 : decode cX5_leastWorth 51 = .ok (.if_icmp .le 8, 3) := by decide +kernel
theorem dX5_leastWorth_54 : decode cX5_leastWorth 54 = .ok (.iload 4, 2) := by decide +kernel
theorem dX5_leastWorth_56 : decode cX5_leastWorth 56 = .ok (.goto 4, 3) := by decide +kernel
theorem dX5_leastWorth_59 : decode cX5_leastWorth 59 = .ok (.iload_n 2, 1) := by decide +kernel
theorem dX5_leastWorth_60 : decode cX5_leastWorth 60 = .ok (.istore_n 2, 1) := by decide +kernel
theorem dX5_leastWorth_61 : decode cX5_leastWorth 61 = .ok (.iinc 3 1, 3) := by decide +kernel
theorem dX5_leastWorth_64 : decode cX5_leastWorth 64 = .ok (.goto (-53), 3) := by decide +kernel
theorem dX5_leastWorth_67 : decode cX5_leastWorth 67 = .ok (.iload_n 1, 1) := by decide +kernel
theorem dX5_leastWorth_68 : decode cX5_leastWorth 68 = .ok (.ireturn, 1) := by decide +kernel
set_option maxRecDepth 20000 in
theorem ggX5_tryAsk_X5_whyNotAsked : GoodIn wsX5_tryAsk wsX5_whyNotAsked := goodIn_r _ [5, 6, 7, 8, 4, 9, 10, 11, 12, 13, 14, 15, 16, 17, 18, 19, 20, 21, 46, 47, 48, 49, 50, 51, 52, 53, 54, 55, 56] (by decide +kernel) (by decide +kernel)
set_option maxRecDepth 20000 in
theorem gX5_tryAsk_X5_whyNotAsked : GoodIn wsX5_tryAsk (wsV RX5 150 RX5 yX5_whyNotAsked wsX5_whyNotAsked) := goodIn_app (goodIn_of _ (by decide +kernel)) ggX5_tryAsk_X5_whyNotAsked
set_option maxRecDepth 20000 in
theorem ggX5_tryAsk_X5_asked : GoodIn wsX5_tryAsk wsX5_asked := goodIn_r _ [25, 14, 26, 27, 28, 4, 29, 30, 31, 32, 33, 34, 35, 36, 37, 38, 39, 40, 41, 42, 43, 44, 45, 46, 47, 48, 49, 50, 51, 52, 53, 54, 55, 56] (by decide +kernel) (by decide +kernel)
set_option maxRecDepth 20000 in
theorem gX5_tryAsk_X5_asked : GoodIn wsX5_tryAsk (wsV RX5 118 RX5 yX5_asked wsX5_asked) := goodIn_app (goodIn_of _ (by decide +kernel)) ggX5_tryAsk_X5_asked
theorem dX5_tryAsk_0 : decode cX5_tryAsk 0 = .ok (.aload_n 0, 1) := by decide +kernel
theorem dX5_tryAsk_1 : decode cX5_tryAsk 1 = .ok (.iload_n 1, 1) := by decide +kernel
theorem dX5_tryAsk_2 : decode cX5_tryAsk 2 = .ok (.iload_n 2, 1) := by decide +kernel
theorem dX5_tryAsk_3 : decode cX5_tryAsk 3 = .ok (.invokevirtual 150, 3) := by decide +kernel
theorem dX5_tryAsk_6 : decode cX5_tryAsk 6 = .ok (.ifCond .ne 7, 3) := by decide +kernel
theorem dX5_tryAsk_9 : decode cX5_tryAsk 9 = .ok (.iconst 1, 1) := by decide +kernel
theorem dX5_tryAsk_10 : decode cX5_tryAsk 10 = .ok (.goto 4, 3) := by decide +kernel
theorem dX5_tryAsk_13 : decode cX5_tryAsk 13 = .ok (.iconst 0, 1) := by decide +kernel
theorem dX5_tryAsk_14 : decode cX5_tryAsk 14 = .ok (.istore_n 3, 1) := by decide +kernel
theorem dX5_tryAsk_15 : decode cX5_tryAsk 15 = .ok (.iload_n 3, 1) := by decide +kernel
theorem dX5_tryAsk_16 : decode cX5_tryAsk 16 = .ok (.ifCond .eq 10, 3) := by decide +kernel
theorem dX5_tryAsk_19 : decode cX5_tryAsk 19 = .ok (.aload_n 0, 1) := by decide +kernel
theorem dX5_tryAsk_20 : decode cX5_tryAsk 20 = .ok (.iload_n 1, 1) := by decide +kernel
theorem dX5_tryAsk_21 : decode cX5_tryAsk 21 = .ok (.iload_n 2, 1) := by decide +kernel
theorem dX5_tryAsk_22 : decode cX5_tryAsk 22 = .ok (.invokevirtual 118, 3) := by decide +kernel
theorem dX5_tryAsk_25 : decode cX5_tryAsk 25 = .ok (.pop, 1) := by decide +kernel
theorem dX5_tryAsk_26 : decode cX5_tryAsk 26 = .ok (.iload_n 3, 1) := by decide +kernel
theorem dX5_tryAsk_27 : decode cX5_tryAsk 27 = .ok (.ireturn, 1) := by decide +kernel
set_option maxRecDepth 20000 in
theorem ggX5_tryWrite_X5_isPlace : GoodIn wsX5_tryWrite wsX5_isPlace := goodIn_r _ [5, 6, 7, 8, 4, 9, 22, 23, 24, 25, 26, 27, 28, 29, 30, 31, 32] (by decide +kernel) (by decide +kernel)
set_option maxRecDepth 20000 in
theorem gX5_tryWrite_X5_isPlace : GoodIn wsX5_tryWrite (wsV RX5 68 RX5 yX5_isPlace wsX5_isPlace) := goodIn_app (goodIn_of _ (by decide +kernel)) ggX5_tryWrite_X5_isPlace
set_option maxRecDepth 20000 in
theorem ggX5_tryWrite_X5_written : GoodIn wsX5_tryWrite wsX5_written := goodIn_r _ [13, 6, 14, 15, 16, 4, 17, 7, 8, 9, 18, 19, 20, 21, 22, 23, 24, 25, 26, 27, 28, 29, 30, 31, 32] (by decide +kernel) (by decide +kernel)
set_option maxRecDepth 20000 in
theorem gX5_tryWrite_X5_written : GoodIn wsX5_tryWrite (wsV RX5 108 RX5 yX5_written wsX5_written) := goodIn_app (goodIn_of _ (by decide +kernel)) ggX5_tryWrite_X5_written
theorem dX5_tryWrite_0 : decode cX5_tryWrite 0 = .ok (.aload_n 0, 1) := by decide +kernel
theorem dX5_tryWrite_1 : decode cX5_tryWrite 1 = .ok (.iload_n 1, 1) := by decide +kernel
theorem dX5_tryWrite_2 : decode cX5_tryWrite 2 = .ok (.invokevirtual 68, 3) := by decide +kernel
theorem dX5_tryWrite_5 : decode cX5_tryWrite 5 = .ok (.ifCond .eq 12, 3) := by decide +kernel
theorem dX5_tryWrite_8 : decode cX5_tryWrite 8 = .ok (.iload_n 2, 1) := by decide +kernel
theorem dX5_tryWrite_9 : decode cX5_tryWrite 9 = .ok (.iconst 2, 1) := by decide +kernel
theorem dX5_tryWrite_10 : decode cX5_tryWrite 10 = .ok (.if_icmp .ge 7, 3) := by decide +kernel
theorem dX5_tryWrite_13 : decode cX5_tryWrite 13 = .ok (.iconst 1, 1) := by decide +kernel
theorem dX5_tryWrite_14 : decode cX5_tryWrite 14 = .ok (.goto 4, 3) := by decide +kernel
theorem dX5_tryWrite_17 : decode cX5_tryWrite 17 = .ok (.iconst 0, 1) := by decide +kernel
theorem dX5_tryWrite_18 : decode cX5_tryWrite 18 = .ok (.istore_n 3, 1) := by decide +kernel
theorem dX5_tryWrite_19 : decode cX5_tryWrite 19 = .ok (.iload_n 3, 1) := by decide +kernel
theorem dX5_tryWrite_20 : decode cX5_tryWrite 20 = .ok (.ifCond .eq 10, 3) := by decide +kernel
theorem dX5_tryWrite_23 : decode cX5_tryWrite 23 = .ok (.aload_n 0, 1) := by decide +kernel
theorem dX5_tryWrite_24 : decode cX5_tryWrite 24 = .ok (.iload_n 1, 1) := by decide +kernel
theorem dX5_tryWrite_25 : decode cX5_tryWrite 25 = .ok (.iload_n 2, 1) := by decide +kernel
theorem dX5_tryWrite_26 : decode cX5_tryWrite 26 = .ok (.invokevirtual 108, 3) := by decide +kernel
theorem dX5_tryWrite_29 : decode cX5_tryWrite 29 = .ok (.pop, 1) := by decide +kernel
theorem dX5_tryWrite_30 : decode cX5_tryWrite 30 = .ok (.iload_n 3, 1) := by decide +kernel
theorem dX5_tryWrite_31 : decode cX5_tryWrite 31 = .ok (.ireturn, 1) := by decide +kernel
set_option maxRecDepth 20000 in
theorem ggX5_trySet_X5_isSetting : GoodIn wsX5_trySet wsX5_isSetting := goodIn_r _ [4, 5, 6, 3, 7] (by decide +kernel) (by decide +kernel)
set_option maxRecDepth 20000 in
theorem gX5_trySet_X5_isSetting : GoodIn wsX5_trySet (va_wsS RX5 144 yX5_isSetting wsX5_isSetting) := goodIn_app (goodIn_of _ (by decide +kernel)) ggX5_trySet_X5_isSetting
set_option maxRecDepth 20000 in
theorem ggX5_trySet_X5_changed : GoodIn wsX5_trySet wsX5_changed := goodIn_r _ [11, 12, 13, 14, 15, 3, 16, 17, 18, 19, 20, 21, 22, 23, 24, 25, 26, 27] (by decide +kernel) (by decide +kernel)
set_option maxRecDepth 20000 in
theorem gX5_trySet_X5_changed : GoodIn wsX5_trySet (wsV RX5 111 RX5 yX5_changed wsX5_changed) := goodIn_app (goodIn_of _ (by decide +kernel)) ggX5_trySet_X5_changed
theorem dX5_trySet_0 : decode cX5_trySet 0 = .ok (.iload_n 1, 1) := by decide +kernel
theorem dX5_trySet_1 : decode cX5_trySet 1 = .ok (.iload_n 2, 1) := by decide +kernel
theorem dX5_trySet_2 : decode cX5_trySet 2 = .ok (.invokestatic 144, 3) := by decide +kernel
theorem dX5_trySet_5 : decode cX5_trySet 5 = .ok (.istore_n 3, 1) := by decide +kernel
theorem dX5_trySet_6 : decode cX5_trySet 6 = .ok (.iload_n 3, 1) := by decide +kernel
theorem dX5_trySet_7 : decode cX5_trySet 7 = .ok (.ifCond .eq 10, 3) := by decide +kernel
theorem dX5_trySet_10 : decode cX5_trySet 10 = .ok (.aload_n 0, 1) := by decide +kernel
theorem dX5_trySet_11 : decode cX5_trySet 11 = .ok (.iload_n 1, 1) := by decide +kernel
theorem dX5_trySet_12 : decode cX5_trySet 12 = .ok (.iload_n 2, 1) := by decide +kernel
theorem dX5_trySet_13 : decode cX5_trySet 13 = .ok (.invokevirtual 111, 3) := by decide +kernel
theorem dX5_trySet_16 : decode cX5_trySet 16 = .ok (.pop, 1) := by decide +kernel
theorem dX5_trySet_17 : decode cX5_trySet 17 = .ok (.iload_n 3, 1) := by decide +kernel
theorem dX5_trySet_18 : decode cX5_trySet 18 = .ok (.ireturn, 1) := by decide +kernel
set_option maxRecDepth 20000 in
theorem ggX5_tryForget_X5_isAnswer : GoodIn wsX5_tryForget wsX5_isAnswer := goodIn_r _ [5, 6, 7, 8, 4, 9, 14, 15, 16, 17, 18, 19, 20, 21, 22, 23, 24] (by decide +kernel) (by decide +kernel)
set_option maxRecDepth 20000 in
theorem gX5_tryForget_X5_isAnswer : GoodIn wsX5_tryForget (wsV RX5 128 RX5 yX5_isAnswer wsX5_isAnswer) := goodIn_app (goodIn_of _ (by decide +kernel)) ggX5_tryForget_X5_isAnswer
set_option maxRecDepth 20000 in
theorem ggX5_tryForget_X5_forgetOne : GoodIn wsX5_tryForget wsX5_forgetOne := goodIn_r _ [13, 6, 14, 15, 16, 17, 18, 19, 20, 21, 22, 23, 24] (by decide +kernel) (by decide +kernel)
set_option maxRecDepth 20000 in
theorem gX5_tryForget_X5_forgetOne : GoodIn wsX5_tryForget (wsV RX5 135 RX5 yX5_forgetOne wsX5_forgetOne) := goodIn_app (goodIn_of _ (by decide +kernel)) ggX5_tryForget_X5_forgetOne
theorem dX5_tryForget_0 : decode cX5_tryForget 0 = .ok (.aload_n 0, 1) := by decide +kernel
theorem dX5_tryForget_1 : decode cX5_tryForget 1 = .ok (.iload_n 1, 1) := by decide +kernel
theorem dX5_tryForget_2 : decode cX5_tryForget 2 = .ok (.invokevirtual 128, 3) := by decide +kernel
theorem dX5_tryForget_5 : decode cX5_tryForget 5 = .ok (.istore_n 2, 1) := by decide +kernel
theorem dX5_tryForget_6 : decode cX5_tryForget 6 = .ok (.iload_n 2, 1) := by decide +kernel
theorem dX5_tryForget_7 : decode cX5_tryForget 7 = .ok (.ifCond .eq 8, 3) := by decide +kernel
theorem dX5_tryForget_10 : decode cX5_tryForget 10 = .ok (.aload_n 0, 1) := by decide +kernel
theorem dX5_tryForget_11 : decode cX5_tryForget 11 = .ok (.iload_n 1, 1) := by decide +kernel
theorem dX5_tryForget_12 : decode cX5_tryForget 12 = .ok (.invokevirtual 135, 3) := by decide +kernel
theorem dX5_tryForget_15 : decode cX5_tryForget 15 = .ok (.iload_n 2, 1) := by decide +kernel
theorem dX5_tryForget_16 : decode cX5_tryForget 16 = .ok (.ireturn, 1) := by decide +kernel
set_option maxRecDepth 20000 in
theorem ggX5_isKnownAs_X5_findBounds : GoodIn wsX5_isKnownAs wsX5_findBounds := goodIn_r _ [5, 6, 7, 8, 9, 10, 4, 11, 12, 13, 14, 15, 16, 17, 35, 36, 37, 38, 39, 40, 41, 42, 43, 44, 45] (by decide +kernel) (by decide +kernel)
set_option maxRecDepth 20000 in
theorem gX5_isKnownAs_X5_findBounds : GoodIn wsX5_isKnownAs (wsV RX5 75 RX5 yX5_findBounds wsX5_findBounds) := goodIn_app (goodIn_of _ (by decide +kernel)) ggX5_isKnownAs_X5_findBounds
set_option maxRecDepth 20000 in
theorem ggX5_isKnownAs_X5_isPlace : GoodIn wsX5_isKnownAs wsX5_isPlace := goodIn_r _ [21, 6, 22, 23, 4, 24, 35, 36, 37, 38, 39, 40, 41, 42, 43, 44, 45] (by decide +kernel) (by decide +kernel)
set_option maxRecDepth 20000 in
theorem gX5_isKnownAs_X5_isPlace : GoodIn wsX5_isKnownAs (wsV RX5 68 RX5 yX5_isPlace wsX5_isPlace) := goodIn_app (goodIn_of _ (by decide +kernel)) ggX5_isKnownAs_X5_isPlace
set_option maxRecDepth 20000 in
theorem ggX5_isKnownAs_X5_knownOf : GoodIn wsX5_isKnownAs wsX5_knownOf := goodIn_r _ [28, 7, 29, 30, 4, 31, 32, 33, 34, 35, 36, 37, 38, 39, 40, 41, 42, 43, 44, 45] (by decide +kernel) (by decide +kernel)
set_option maxRecDepth 20000 in
theorem gX5_isKnownAs_X5_knownOf : GoodIn wsX5_isKnownAs (wsV RX5 78 RX5 yX5_knownOf wsX5_knownOf) := goodIn_app (goodIn_of _ (by decide +kernel)) ggX5_isKnownAs_X5_knownOf
theorem dX5_isKnownAs_0 : decode cX5_isKnownAs 0 = .ok (.aload_n 0, 1) := by decide +kernel
theorem dX5_isKnownAs_1 : decode cX5_isKnownAs 1 = .ok (.iconst (-1), 1) := by decide +kernel
theorem dX5_isKnownAs_2 : decode cX5_isKnownAs 2 = .ok (.invokevirtual 75, 3) := by decide +kernel
theorem dX5_isKnownAs_5 : decode cX5_isKnownAs 5 = .ok (.aload_n 0, 1) := by decide +kernel
theorem dX5_isKnownAs_6 : decode cX5_isKnownAs 6 = .ok (.iload_n 1, 1) := by decide +kernel
theorem dX5_isKnownAs_7 : decode cX5_isKnownAs 7 = .ok (.invokevirtual 68, 3) := by decide +kernel
theorem dX5_isKnownAs_10 : decode cX5_isKnownAs 10 = .ok (.ifCond .eq 21, 3) := by decide +kernel
theorem dX5_isKnownAs_13 : decode cX5_isKnownAs 13 = .ok (.iload_n 2, 1) := by decide +kernel
theorem dX5_isKnownAs_14 : decode cX5_isKnownAs 14 = .ok (.iconst 2, 1) := by decide +kernel
theorem dX5_isKnownAs_15 : decode cX5_isKnownAs 15 = .ok (.if_icmp .ge 16, 3) := by decide +kernel
theorem dX5_isKnownAs_18 : decode cX5_isKnownAs 18 = .ok (.aload_n 0, 1) := by decide +kernel
theorem dX5_isKnownAs_19 : decode cX5_isKnownAs 19 = .ok (.iload_n 1, 1) := by decide +kernel
theorem dX5_isKnownAs_20 : decode cX5_isKnownAs 20 = .ok (.invokevirtual 78, 3) := by decide +kernel
theorem dX5_isKnownAs_23 : decode cX5_isKnownAs 23 = .ok (.iload_n 2, 1) := by decide +kernel
theorem dX5_isKnownAs_24 : decode cX5_isKnownAs 24 = .ok (.if_icmp .ne 7, 3) := by decide +kernel
theorem dX5_isKnownAs_27 : decode cX5_isKnownAs 27 = .ok (.iconst 1, 1) := by decide +kernel
theorem dX5_isKnownAs_28 : decode cX5_isKnownAs 28 = .ok (.goto 4, 3) := by decide +kernel
theorem dX5_isKnownAs_31 : decode cX5_isKnownAs 31 = .ok (.iconst 0, 1) := by decide +kernel
theorem dX5_isKnownAs_32 : decode cX5_isKnownAs 32 = .ok (.ireturn, 1) := by decide +kernel
set_option maxRecDepth 20000 in
theorem ggX5_knownMany_X5_findBounds : GoodIn wsX5_knownMany wsX5_findBounds := goodIn_r _ [6, 7, 1, 8, 9, 10, 5, 11, 12, 13, 14, 15, 16, 17, 28, 29, 30, 31, 32, 33, 34, 35, 36, 37, 38] (by decide +kernel) (by decide +kernel)
set_option maxRecDepth 20000 in
theorem gX5_knownMany_X5_findBounds : GoodIn wsX5_knownMany (wsV RX5 75 RX5 yX5_findBounds wsX5_findBounds) := goodIn_app (goodIn_of _ (by decide +kernel)) ggX5_knownMany_X5_findBounds
set_option maxRecDepth 20000 in
theorem ggX5_knownMany_X5_knownIn : GoodIn wsX5_knownMany wsX5_knownIn := goodIn_r _ [21, 7, 22, 23, 5, 24, 25, 26, 27, 28, 29, 30, 31, 32, 33, 34, 35, 36, 37, 38] (by decide +kernel) (by decide +kernel)
set_option maxRecDepth 20000 in
theorem gX5_knownMany_X5_knownIn : GoodIn wsX5_knownMany (wsV RX5 124 RX5 yX5_knownIn wsX5_knownIn) := goodIn_app (goodIn_of _ (by decide +kernel)) ggX5_knownMany_X5_knownIn
theorem dX5_knownMany_0 : decode cX5_knownMany 0 = .ok (.aload_n 0, 1) := by decide +kernel
theorem dX5_knownMany_1 : decode cX5_knownMany 1 = .ok (.iconst (-1), 1) := by decide +kernel
theorem dX5_knownMany_2 : decode cX5_knownMany 2 = .ok (.invokevirtual 75, 3) := by decide +kernel
theorem dX5_knownMany_5 : decode cX5_knownMany 5 = .ok (.aload_n 0, 1) := by decide +kernel
theorem dX5_knownMany_6 : decode cX5_knownMany 6 = .ok (.aload_n 0, 1) := by decide +kernel
theorem dX5_knownMany_7 : decode cX5_knownMany 7 = .ok (.getfield 28, 3) := by decide +kernel
theorem dX5_knownMany_10 : decode cX5_knownMany 10 = .ok (.invokevirtual 124, 3) := by decide +kernel
theorem dX5_knownMany_13 : decode cX5_knownMany 13 = .ok (.ireturn, 1) := by decide +kernel
set_option maxRecDepth 20000 in
theorem ggX5_commands_X5_tryAsk : GoodIn wsX5_commands wsX5_tryAsk := goodIn_r _ [6, 7, 8, 9, 5, 10, 11, 12, 13, 14, 15, 16, 17, 18, 1, 19, 20, 21, 22, 23, 24, 25, 26, 27, 28, 29, 30, 31, 32, 33, 34, 35, 36, 37, 38, 39, 40, 41, 42, 43, 44, 45, 46, 47, 48, 49, 114, 115, 116, 117, 118, 119, 120, 121, 122, 123, 124] (by decide +kernel) (by decide +kernel)
set_option maxRecDepth 20000 in
theorem gX5_commands_X5_tryAsk : GoodIn wsX5_commands (wsV RX5 156 RX5 yX5_tryAsk wsX5_tryAsk) := goodIn_app (goodIn_of _ (by decide +kernel)) ggX5_commands_X5_tryAsk
set_option maxRecDepth 20000 in
theorem ggX5_commands_X5_tryWrite : GoodIn wsX5_commands wsX5_tryWrite := goodIn_r _ [53, 15, 16, 17, 5, 18, 1, 19, 20, 21, 54, 55, 56, 57, 38, 39, 40, 41, 42, 43, 44, 45, 114, 115, 116, 117, 118, 119, 120, 121, 122, 123, 124] (by decide +kernel) (by decide +kernel)
set_option maxRecDepth 20000 in
theorem gX5_commands_X5_tryWrite : GoodIn wsX5_commands (wsV RX5 159 RX5 yX5_tryWrite wsX5_tryWrite) := goodIn_app (goodIn_of _ (by decide +kernel)) ggX5_commands_X5_tryWrite
set_option maxRecDepth 20000 in
theorem ggX5_commands_X5_trySet : GoodIn wsX5_commands wsX5_trySet := goodIn_r _ [61, 62, 63, 5, 64, 19, 20, 21, 65, 66, 67, 68, 1, 69, 70, 71, 72, 114, 115, 116, 117, 118, 119, 120, 121, 122, 123, 124] (by decide +kernel) (by decide +kernel)
set_option maxRecDepth 20000 in
theorem gX5_commands_X5_trySet : GoodIn wsX5_commands (wsV RX5 162 RX5 yX5_trySet wsX5_trySet) := goodIn_app (goodIn_of _ (by decide +kernel)) ggX5_commands_X5_trySet
set_option maxRecDepth 20000 in
theorem ggX5_commands_X5_tryForget : GoodIn wsX5_commands wsX5_tryForget := goodIn_r _ [76, 77, 78, 79, 5, 80, 1, 19, 20, 21, 42, 43, 44, 45, 114, 115, 116, 117, 118, 119, 120, 121, 122, 123, 124] (by decide +kernel) (by decide +kernel)
set_option maxRecDepth 20000 in
theorem gX5_commands_X5_tryForget : GoodIn wsX5_commands (wsV RX5 165 RX5 yX5_tryForget wsX5_tryForget) := goodIn_app (goodIn_of _ (by decide +kernel)) ggX5_commands_X5_tryForget
set_option maxRecDepth 20000 in
theorem ggX5_commands_X5_isKnownAs : GoodIn wsX5_commands wsX5_isKnownAs := goodIn_r _ [84, 85, 86, 87, 5, 88, 1, 89, 38, 39, 40, 41, 90, 91, 92, 93, 94, 95, 15, 16, 17, 18, 19, 20, 21, 96, 97, 98, 99, 100, 101, 102, 103, 104, 105, 114, 115, 116, 117, 118, 119, 120, 121, 122, 123, 124] (by decide +kernel) (by decide +kernel)
set_option maxRecDepth 20000 in
theorem gX5_commands_X5_isKnownAs : GoodIn wsX5_commands (wsV RX5 168 RX5 yX5_isKnownAs wsX5_isKnownAs) := goodIn_app (goodIn_of _ (by decide +kernel)) ggX5_commands_X5_isKnownAs
set_option maxRecDepth 20000 in
theorem ggX5_commands_X5_knownMany : GoodIn wsX5_commands wsX5_knownMany := goodIn_r _ [109, 89, 85, 86, 87, 5, 88, 1, 38, 39, 40, 41, 90, 91, 92, 93, 94, 95, 110, 111, 112, 113, 100, 101, 102, 103, 104, 105, 114, 115, 116, 117, 118, 119, 120, 121, 122, 123, 124] (by decide +kernel) (by decide +kernel)
set_option maxRecDepth 20000 in
theorem gX5_commands_X5_knownMany : GoodIn wsX5_commands (wsV RX5 171 RX5 yX5_knownMany wsX5_knownMany) := goodIn_app (goodIn_of _ (by decide +kernel)) ggX5_commands_X5_knownMany
set_option maxRecDepth 20000 in
theorem ggX5_commands_X5_keysIn : GoodIn wsX5_commands wsX5_keysIn := goodIn_r _ [49, 1, 114, 115, 116, 117, 118, 119, 120, 121, 122, 123, 124] (by decide +kernel) (by decide +kernel)
set_option maxRecDepth 20000 in
theorem gX5_commands_X5_keysIn : GoodIn wsX5_commands (wsV RX5 121 RX5 yX5_keysIn wsX5_keysIn) := goodIn_app (goodIn_of _ (by decide +kernel)) ggX5_commands_X5_keysIn
theorem dX5_commands_0 : decode cX5_commands 0 = .ok (.iload_n 1, 1) := by decide +kernel
theorem dX5_commands_1 : decode cX5_commands 1 = .ok (.bipush 100, 2) := by decide +kernel
theorem dX5_commands_3 : decode cX5_commands 3 = .ok (.idiv, 1) := by decide +kernel
theorem dX5_commands_4 : decode cX5_commands 4 = .ok (.bipush 100, 2) := by decide +kernel
theorem dX5_commands_6 : decode cX5_commands 6 = .ok (.irem, 1) := by decide +kernel
theorem dX5_commands_7 : decode cX5_commands 7 = .ok (.istore_n 2, 1) := by decide +kernel
theorem dX5_commands_8 : decode cX5_commands 8 = .ok (.iload_n 1, 1) := by decide +kernel
theorem dX5_commands_9 : decode cX5_commands 9 = .ok (.bipush 100, 2) := by decide +kernel
theorem dX5_commands_11 : decode cX5_commands 11 = .ok (.irem, 1) := by decide +kernel
theorem dX5_commands_12 : decode cX5_commands 12 = .ok (.istore_n 3, 1) := by decide +kernel
theorem dX5_commands_13 : decode cX5_commands 13 = .ok (.iload_n 1, 1) := by decide +kernel
theorem dX5_commands_14 : decode cX5_commands 14 = .ok (.sipush 10000, 3) := by decide +kernel
theorem dX5_commands_17 : decode cX5_commands 17 = .ok (.idiv, 1) := by decide +kernel
theorem dX5_commands_18 : decode cX5_commands 18 = .ok (.tableswitch 236 1 9 #[50, 57, 82, 107, 125, 145, 163, 189, 209], 50) := by decide +kernel
theorem dX5_commands_68 : decode cX5_commands 68 = .ok (.aload_n 0, 1) := by decide +kernel
theorem dX5_commands_69 : decode cX5_commands 69 = .ok (.iload_n 2, 1) := by decide +kernel
theorem dX5_commands_70 : decode cX5_commands 70 = .ok (.iload_n 3, 1) := by decide +kernel
theorem dX5_commands_71 : decode cX5_commands 71 = .ok (.invokevirtual 156, 3) := by decide +kernel
theorem dX5_commands_74 : decode cX5_commands 74 = .ok (.ireturn, 1) := by decide +kernel
theorem dX5_commands_75 : decode cX5_commands 75 = .ok (.iload_n 3, 1) := by decide +kernel
theorem dX5_commands_76 : decode cX5_commands 76 = .ok (.bipush 10, 2) := by decide +kernel
theorem dX5_commands_78 : decode cX5_commands 78 = .ok (.irem, 1) := by decide +kernel
theorem dX5_commands_79 : decode cX5_commands 79 = .ok (.ifCond .ne 19, 3) := by decide +kernel
theorem dX5_commands_82 : decode cX5_commands 82 = .ok (.aload_n 0, 1) := by decide +kernel
theorem dX5_commands_83 : decode cX5_commands 83 = .ok (.iload_n 2, 1) := by decide +kernel
theorem dX5_commands_84 : decode cX5_commands 84 = .ok (.iload_n 3, 1) := by decide +kernel
theorem dX5_commands_85 : decode cX5_commands 85 = .ok (.bipush 10, 2) := by decide +kernel
theorem dX5_commands_87 : decode cX5_commands 87 = .ok (.idiv, 1) := by decide +kernel
theorem dX5_commands_88 : decode cX5_commands 88 = .ok (.invokevirtual 159, 3) := by decide +kernel
theorem dX5_commands_91 : decode cX5_commands 91 = .ok (.ifCond .eq 7, 3) := by decide +kernel
theorem dX5_commands_94 : decode cX5_commands 94 = .ok (.iconst 1, 1) := by decide +kernel
theorem dX5_commands_95 : decode cX5_commands 95 = .ok (.goto 4, 3) := by decide +kernel
theorem dX5_commands_98 : decode cX5_commands 98 = .ok (.iconst 0, 1) := by decide +kernel
theorem dX5_commands_99 : decode cX5_commands 99 = .ok (.ireturn, 1) := by decide +kernel
theorem dX5_commands_100 : decode cX5_commands 100 = .ok (.iload_n 3, 1) := by decide +kernel
theorem dX5_commands_101 : decode cX5_commands 101 = .ok (.ifCond .ne 22, 3) := by decide +kernel
theorem dX5_commands_104 : decode cX5_commands 104 = .ok (.aload_n 0, 1) := by decide +kernel
theorem dX5_commands_105 : decode cX5_commands 105 = .ok (.iload_n 2, 1) := by decide +kernel
theorem dX5_commands_106 : decode cX5_commands 106 = .ok (.bipush 10, 2) := by decide +kernel
theorem dX5_commands_108 : decode cX5_commands 108 = .ok (.idiv, 1) := by decide +kernel
theorem dX5_commands_109 : decode cX5_commands 109 = .ok (.iload_n 2, 1) := by decide +kernel
theorem dX5_commands_110 : decode cX5_commands 110 = .ok (.bipush 10, 2) := by decide +kernel
theorem dX5_commands_112 : decode cX5_commands 112 = .ok (.irem, 1) := by decide +kernel
theorem dX5_commands_113 : decode cX5_commands 113 = .ok (.invokevirtual 162, 3) := by decide +kernel
theorem dX5_commands_116 : decode cX5_commands 116 = .ok (.ifCond .eq 7, 3) := by decide +kernel
theorem dX5_commands_119 : decode cX5_commands 119 = .ok (.iconst 1, 1) := by decide +kernel
theorem dX5_commands_120 : decode cX5_commands 120 = .ok (.goto 4, 3) := by decide +kernel
theorem dX5_commands_123 : decode cX5_commands 123 = .ok (.iconst 0, 1) := by decide +kernel
theorem dX5_commands_124 : decode cX5_commands 124 = .ok (.ireturn, 1) := by decide +kernel
theorem dX5_commands_125 : decode cX5_commands 125 = .ok (.iload_n 3, 1) := by decide +kernel
theorem dX5_commands_126 : decode cX5_commands 126 = .ok (.ifCond .ne 15, 3) := by decide +kernel
theorem dX5_commands_129 : decode cX5_commands 129 = .ok (.aload_n 0, 1) := by decide +kernel
theorem dX5_commands_130 : decode cX5_commands 130 = .ok (.iload_n 2, 1) := by decide +kernel
theorem dX5_commands_131 : decode cX5_commands 131 = .ok (.invokevirtual 165, 3) := by decide +kernel
theorem dX5_commands_134 : decode cX5_commands 134 = .ok (.ifCond .eq 7, 3) := by decide +kernel
theorem dX5_commands_137 : decode cX5_commands 137 = .ok (.iconst 1, 1) := by decide +kernel
theorem dX5_commands_138 : decode cX5_commands 138 = .ok (.goto 4, 3) := by decide +kernel
theorem dX5_commands_141 : decode cX5_commands 141 = .ok (.iconst 0, 1) := by decide +kernel
theorem dX5_commands_142 : decode cX5_commands 142 = .ok (.ireturn, 1) := by decide +kernel
theorem dX5_commands_143 : decode cX5_commands 143 = .ok (.iload_n 3, 1) := by decide +kernel
theorem dX5_commands_144 : decode cX5_commands 144 = .ok (.iconst 2, 1) := by decide +kernel
theorem dX5_commands_145 : decode cX5_commands 145 = .ok (.if_icmp .ge 16, 3) := by decide +kernel
theorem dX5_commands_148 : decode cX5_commands 148 = .ok (.aload_n 0, 1) := by decide +kernel
theorem dX5_commands_149 : decode cX5_commands 149 = .ok (.iload_n 2, 1) := by decide +kernel
theorem dX5_commands_150 : decode cX5_commands 150 = .ok (.iload_n 3, 1) := by decide +kernel
theorem dX5_commands_151 : decode cX5_commands 151 = .ok (.invokevirtual 168, 3) := by decide +kernel
theorem dX5_commands_154 : decode cX5_commands 154 = .ok (.ifCond .eq 7, 3) := by decide +kernel
theorem dX5_commands_157 : decode cX5_commands 157 = .ok (.iconst 1, 1) := by decide +kernel
theorem dX5_commands_158 : decode cX5_commands 158 = .ok (.goto 4, 3) := by decide +kernel
theorem dX5_commands_161 : decode cX5_commands 161 = .ok (.iconst 0, 1) := by decide +kernel
theorem dX5_commands_162 : decode cX5_commands 162 = .ok (.ireturn, 1) := by decide +kernel
theorem dX5_commands_163 : decode cX5_commands 163 = .ok (.iload_n 2, 1) := by decide +kernel
theorem dX5_commands_164 : decode cX5_commands 164 = .ok (.ifCond .ne 15, 3) := by decide +kernel
theorem dX5_commands_167 : decode cX5_commands 167 = .ok (.aload_n 0, 1) := by decide +kernel
theorem dX5_commands_168 : decode cX5_commands 168 = .ok (.invokevirtual 171, 3) := by decide +kernel
theorem dX5_commands_171 : decode cX5_commands 171 = .ok (.iload_n 3, 1) := by decide +kernel
theorem dX5_commands_172 : decode cX5_commands 172 = .ok (.if_icmp .lt 7, 3) := by decide +kernel
theorem dX5_commands_175 : decode cX5_commands 175 = .ok (.iconst 1, 1) := by decide +kernel
theorem dX5_commands_176 : decode cX5_commands 176 = .ok (.goto 4, 3) := by decide +kernel
theorem dX5_commands_179 : decode cX5_commands 179 = .ok (.iconst 0, 1) := by decide +kernel
theorem dX5_commands_180 : decode cX5_commands 180 = .ok (.ireturn, 1) := by decide +kernel
theorem dX5_commands_181 : decode cX5_commands 181 = .ok (.iload_n 2, 1) := by decide +kernel
theorem dX5_commands_182 : decode cX5_commands 182 = .ok (.bipush 10, 2) := by decide +kernel
theorem dX5_commands_184 : decode cX5_commands 184 = .ok (.if_icmp .ge 21, 3) := by decide +kernel
theorem dX5_commands_187 : decode cX5_commands 187 = .ok (.aload_n 0, 1) := by decide +kernel
theorem dX5_commands_188 : decode cX5_commands 188 = .ok (.getfield 7, 3) := by decide +kernel
theorem dX5_commands_191 : decode cX5_commands 191 = .ok (.iconst 5, 1) := by decide +kernel
theorem dX5_commands_192 : decode cX5_commands 192 = .ok (.iaload, 1) := by decide +kernel
theorem dX5_commands_193 : decode cX5_commands 193 = .ok (.iload_n 1, 1) := by decide +kernel
theorem dX5_commands_194 : decode cX5_commands 194 = .ok (.sipush 1000, 3) := by decide +kernel
theorem dX5_commands_197 : decode cX5_commands 197 = .ok (.irem, 1) := by decide +kernel
theorem dX5_commands_198 : decode cX5_commands 198 = .ok (.if_icmp .gt 7, 3) := by decide +kernel
theorem dX5_commands_201 : decode cX5_commands 201 = .ok (.iconst 1, 1) := by decide +kernel
theorem dX5_commands_202 : decode cX5_commands 202 = .ok (.goto 4, 3) := by decide +kernel
theorem dX5_commands_205 : decode cX5_commands 205 = .ok (.iconst 0, 1) := by decide +kernel
theorem dX5_commands_206 : decode cX5_commands 206 = .ok (.ireturn, 1) := by decide +kernel
theorem dX5_commands_207 : decode cX5_commands 207 = .ok (.iload_n 2, 1) := by decide +kernel
theorem dX5_commands_208 : decode cX5_commands 208 = .ok (.ifCond .ne 17, 3) := by decide +kernel
theorem dX5_commands_211 : decode cX5_commands 211 = .ok (.aload_n 0, 1) := by decide +kernel
theorem dX5_commands_212 : decode cX5_commands 212 = .ok (.getfield 7, 3) := by decide +kernel
theorem dX5_commands_215 : decode cX5_commands 215 = .ok (.iconst 4, 1) := by decide +kernel
theorem dX5_commands_216 : decode cX5_commands 216 = .ok (.iaload, 1) := by decide +kernel
theorem dX5_commands_217 : decode cX5_commands 217 = .ok (.iload_n 3, 1) := by decide +kernel
theorem dX5_commands_218 : decode cX5_commands 218 = .ok (.if_icmp .lt 7, 3) := by decide +kernel
theorem dX5_commands_221 : decode cX5_commands 221 = .ok (.iconst 1, 1) := by decide +kernel
theorem dX5_commands_222 : decode cX5_commands 222 = .ok (.goto 4, 3) := by decide +kernel
theorem dX5_commands_225 : decode cX5_commands 225 = .ok (.iconst 0, 1) := by decide +kernel
theorem dX5_commands_226 : decode cX5_commands 226 = .ok (.ireturn, 1) := by decide +kernel
theorem dX5_commands_227 : decode cX5_commands 227 = .ok (.iload_n 2, 1) := by decide +kernel
theorem dX5_commands_228 : decode cX5_commands 228 = .ok (.ifCond .ne 24, 3) := by decide +kernel
theorem dX5_commands_231 : decode cX5_commands 231 = .ok (.aload_n 0, 1) := by decide +kernel
theorem dX5_commands_232 : decode cX5_commands 232 = .ok (.iconst 0, 1) := by decide +kernel
theorem dX5_commands_233 : decode cX5_commands 233 = .ok (.aload_n 0, 1) := by decide +kernel
theorem dX5_commands_234 : decode cX5_commands 234 = .ok (.getfield 7, 3) := by decide +kernel
theorem dX5_commands_237 : decode cX5_commands 237 = .ok (.iconst 0, 1) := by decide +kernel
theorem dX5_commands_238 : decode cX5_commands 238 = .ok (.iaload, 1) := by decide +kernel
theorem dX5_commands_239 : decode cX5_commands 239 = .ok (.iconst 1, 1) := by decide +kernel
theorem dX5_commands_240 : decode cX5_commands 240 = .ok (.isub, 1) := by decide +kernel
theorem dX5_commands_241 : decode cX5_commands 241 = .ok (.invokevirtual 121, 3) := by decide +kernel
theorem dX5_commands_244 : decode cX5_commands 244 = .ok (.iload_n 3, 1) := by decide +kernel
theorem dX5_commands_245 : decode cX5_commands 245 = .ok (.if_icmp .lt 7, 3) := by decide +kernel
theorem dX5_commands_248 : decode cX5_commands 248 = .ok (.iconst 1, 1) := by decide +kernel
theorem dX5_commands_249 : decode cX5_commands 249 = .ok (.goto 4, 3) := by decide +kernel
theorem dX5_commands_252 : decode cX5_commands 252 = .ok (.iconst 0, 1) := by decide +kernel
theorem dX5_commands_253 : decode cX5_commands 253 = .ok (.ireturn, 1) := by decide +kernel
theorem dX5_commands_254 : decode cX5_commands 254 = .ok (.iconst 0, 1) := by decide +kernel
theorem dX5_commands_255 : decode cX5_commands 255 = .ok (.ireturn, 1) := by decide +kernel
set_option maxRecDepth 20000 in
theorem ggX5_runScript_X5_copy : GoodIn wsX5_runScript wsX5_copy := goodIn_r _ [10] (by decide +kernel) (by decide +kernel)
set_option maxRecDepth 20000 in
theorem gX5_runScript_X5_copy : GoodIn wsX5_runScript (va_wsS RX5 131 yX5_copy wsX5_copy) := goodIn_app (goodIn_of _ (by decide +kernel)) ggX5_runScript_X5_copy
set_option maxRecDepth 20000 in
theorem ggX5_runScript_X5_commands : GoodIn wsX5_runScript wsX5_commands := goodIn_r _ [14, 5, 15, 16, 17, 9, 18, 19, 20, 21, 22, 23, 24, 25, 26, 27, 28, 29, 30, 31, 32, 33, 34, 35, 36, 37, 38, 39, 40, 41, 42, 43, 44, 45, 46, 47, 48, 49, 50, 51, 52, 53, 54, 55, 56, 57, 58, 59, 60, 61, 62, 63, 64, 65, 66, 67, 68, 69, 70, 71, 72, 73, 74, 75, 76, 77, 78, 79, 80, 81, 82, 83, 84, 85, 86, 87, 88, 89, 90, 91, 92, 93, 94, 95, 96, 97, 98, 99, 100, 101, 102, 103, 104, 105, 106, 107, 108, 109, 110, 111, 112, 113, 114, 115, 116, 117, 118, 119, 120, 121, 122, 123, 124, 125, 126, 127, 128, 129, 130, 131, 132, 133, 134, 135, 136] (by decide +kernel) (by decide +kernel)
set_option maxRecDepth 20000 in
theorem gX5_runScript_X5_commands : GoodIn wsX5_runScript (wsV RX5 180 RX5 yX5_commands wsX5_commands) := goodIn_app (goodIn_of _ (by decide +kernel)) ggX5_runScript_X5_commands
theorem dX5_runScript_0 : decode cX5_runScript 0 = .ok (.iload_n 1, 1) := by decide +kernel
theorem dX5_runScript_1 : decode cX5_runScript 1 = .ok (.iconst 1, 1) := by decide +kernel
theorem dX5_runScript_2 : decode cX5_runScript 2 = .ok (.if_icmp .ne 9, 3) := by decide +kernel
theorem dX5_runScript_5 : decode cX5_runScript 5 = .ok (.ldc2_w 174, 3) := by decide +kernel
theorem dX5_runScript_8 : decode cX5_runScript 8 = .ok (.goto 17, 3) := by decide +kernel
theorem dX5_runScript_11 : decode cX5_runScript 11 = .ok (.iload_n 1, 1) := by decide +kernel
theorem dX5_runScript_12 : decode cX5_runScript 12 = .ok (.iconst 2, 1) := by decide +kernel
theorem dX5_runScript_13 : decode cX5_runScript 13 = .ok (.if_icmp .ne 9, 3) := by decide +kernel
theorem dX5_runScript_16 : decode cX5_runScript 16 = .ok (.ldc2_w 176, 3) := by decide +kernel
theorem dX5_runScript_19 : decode cX5_runScript 19 = .ok (.goto 6, 3) := by decide +kernel
theorem dX5_runScript_22 : decode cX5_runScript 22 = .ok (.ldc2_w 178, 3) := by decide +kernel
theorem dX5_runScript_25 : decode cX5_runScript 25 = .ok (.lstore 4, 2) := by decide +kernel
theorem dX5_runScript_27 : decode cX5_runScript 27 = .ok (.aload_n 0, 1) := by decide +kernel
theorem dX5_runScript_28 : decode cX5_runScript 28 = .ok (.iload_n 1, 1) := by decide +kernel
theorem dX5_runScript_29 : decode cX5_runScript 29 = .ok (.iconst 1, 1) := by decide +kernel
theorem dX5_runScript_30 : decode cX5_runScript 30 = .ok (.if_icmp .lt 21, 3) := by decide +kernel
theorem dX5_runScript_33 : decode cX5_runScript 33 = .ok (.iload_n 1, 1) := by decide +kernel
theorem dX5_runScript_34 : decode cX5_runScript 34 = .ok (.iconst 3, 1) := by decide +kernel
theorem dX5_runScript_35 : decode cX5_runScript 35 = .ok (.if_icmp .gt 16, 3) := by decide +kernel
theorem dX5_runScript_38 : decode cX5_runScript 38 = .ok (.lload_n 2, 1) := by decide +kernel
theorem dX5_runScript_39 : decode cX5_runScript 39 = .ok (.lconst 0, 1) := by decide +kernel
theorem dX5_runScript_40 : decode cX5_runScript 40 = .ok (.lcmp, 1) := by decide +kernel
theorem dX5_runScript_41 : decode cX5_runScript 41 = .ok (.ifCond .lt 10, 3) := by decide +kernel
theorem dX5_runScript_44 : decode cX5_runScript 44 = .ok (.lload_n 2, 1) := by decide +kernel
theorem dX5_runScript_45 : decode cX5_runScript 45 = .ok (.lload 4, 2) := by decide +kernel
theorem dX5_runScript_47 : decode cX5_runScript 47 = .ok (.lcmp, 1) := by decide +kernel
theorem dX5_runScript_48 : decode cX5_runScript 48 = .ok (.ifCond .lt 7, 3) := by decide +kernel
theorem dX5_runScript_51 : decode cX5_runScript 51 = .ok (.iconst 1, 1) := by decide +kernel
theorem dX5_runScript_52 : decode cX5_runScript 52 = .ok (.goto 4, 3) := by decide +kernel
theorem dX5_runScript_55 : decode cX5_runScript 55 = .ok (.iconst 0, 1) := by decide +kernel
theorem dX5_runScript_56 : decode cX5_runScript 56 = .ok (.putfield 38, 3) := by decide +kernel
theorem dX5_runScript_59 : decode cX5_runScript 59 = .ok (.aload_n 0, 1) := by decide +kernel
theorem dX5_runScript_60 : decode cX5_runScript 60 = .ok (.getfield 38, 3) := by decide +kernel
theorem dX5_runScript_63 : decode cX5_runScript 63 = .ok (.ifCond .le 5, 3) := by decide +kernel
theorem dX5_runScript_66 : decode cX5_runScript 66 = .ok (.iconst 0, 1) := by decide +kernel
theorem dX5_runScript_67 : decode cX5_runScript 67 = .ok (.ireturn, 1) := by decide +kernel
theorem dX5_runScript_68 : decode cX5_runScript 68 = .ok (.aload_n 0, 1) := by decide +kernel
theorem dX5_runScript_69 : decode cX5_runScript 69 = .ok (.getfield 7, 3) := by decide +kernel
theorem dX5_runScript_72 : decode cX5_runScript 72 = .ok (.iconst 0, 1) := by decide +kernel
theorem dX5_runScript_73 : decode cX5_runScript 73 = .ok (.aload_n 0, 1) := by decide +kernel
theorem dX5_runScript_74 : decode cX5_runScript 74 = .ok (.getfield 13, 3) := by decide +kernel
theorem dX5_runScript_77 : decode cX5_runScript 77 = .ok (.iconst 0, 1) := by decide +kernel
theorem dX5_runScript_78 : decode cX5_runScript 78 = .ok (.invokestatic 131, 3) := by decide +kernel
theorem dX5_runScript_81 : decode cX5_runScript 81 = .ok (.iconst (-1), 1) := by decide +kernel
theorem dX5_runScript_82 : decode cX5_runScript 82 = .ok (.istore 6, 2) := by decide +kernel
theorem dX5_runScript_84 : decode cX5_runScript 84 = .ok (.lload 4, 2) := by decide +kernel
theorem dX5_runScript_86 : decode cX5_runScript 86 = .ok (.ldc2_w 174, 3) := by decide +kernel
theorem dX5_runScript_89 : decode cX5_runScript 89 = .ok (.ldiv, 1) := by decide +kernel
theorem dX5_runScript_90 : decode cX5_runScript 90 = .ok (.lstore 7, 2) := by decide +kernel
theorem dX5_runScript_92 : decode cX5_runScript 92 = .ok (.iconst 0, 1) := by decide +kernel
theorem dX5_runScript_93 : decode cX5_runScript 93 = .ok (.istore 9, 2) := by decide +kernel
theorem dX5_runScript_95 : decode cX5_runScript 95 = .ok (.iload 9, 2) := by decide +kernel
theorem dX5_runScript_97 : decode cX5_runScript 97 = .ok (.iload_n 1, 1) := by decide +kernel
theorem dX5_runScript_98 : decode cX5_runScript 98 = .ok (.if_icmp .ge 47, 3) := by decide +kernel
theorem dX5_runScript_101 : decode cX5_runScript 101 = .ok (.iload 6, 2) := by decide +kernel
theorem dX5_runScript_103 : decode cX5_runScript 103 = .ok (.iconst (-1), 1) := by decide +kernel
theorem dX5_runScript_104 : decode cX5_runScript 104 = .ok (.if_icmp .ne 41, 3) := by decide +kernel
theorem dX5_runScript_107 : decode cX5_runScript 107 = .ok (.aload_n 0, 1) := by decide +kernel
theorem dX5_runScript_108 : decode cX5_runScript 108 = .ok (.lload_n 2, 1) := by decide +kernel
theorem dX5_runScript_109 : decode cX5_runScript 109 = .ok (.lload 7, 2) := by decide +kernel
theorem dX5_runScript_111 : decode cX5_runScript 111 = .ok (.ldiv, 1) := by decide +kernel
theorem dX5_runScript_112 : decode cX5_runScript 112 = .ok (.ldc2_w 174, 3) := by decide +kernel
theorem dX5_runScript_115 : decode cX5_runScript 115 = .ok (.lrem, 1) := by decide +kernel
theorem dX5_runScript_116 : decode cX5_runScript 116 = .ok (.l2i, 1) := by decide +kernel
theorem dX5_runScript_117 : decode cX5_runScript 117 = .ok (.invokevirtual 180, 3) := by decide +kernel
theorem dX5_runScript_120 : decode cX5_runScript 120 = .ok (.ifCond .eq 7, 3) := by decide +kernel
theorem dX5_runScript_123 : decode cX5_runScript 123 = .ok (.iconst (-1), 1) := by decide +kernel
theorem dX5_runScript_124 : decode cX5_runScript 124 = .ok (.goto 5, 3) := by decide +kernel
theorem dX5_runScript_127 : decode cX5_runScript 127 = .ok (.iload 9, 2) := by decide +kernel
theorem dX5_runScript_129 : decode cX5_runScript 129 = .ok (.istore 6, 2) := by decide +kernel
theorem dX5_runScript_131 : decode cX5_runScript 131 = .ok (.lload 7, 2) := by decide +kernel
theorem dX5_runScript_133 : decode cX5_runScript 133 = .ok (.ldc2_w 174, 3) := by decide +kernel
theorem dX5_runScript_136 : decode cX5_runScript 136 = .ok (.ldiv, 1) := by decide +kernel
theorem dX5_runScript_137 : decode cX5_runScript 137 = .ok (.lstore 7, 2) := by decide +kernel
theorem dX5_runScript_139 : decode cX5_runScript 139 = .ok (.iinc 9 1, 3) := by decide +kernel
theorem dX5_runScript_142 : decode cX5_runScript 142 = .ok (.goto (-47), 3) := by decide +kernel
theorem dX5_runScript_145 : decode cX5_runScript 145 = .ok (.aload_n 0, 1) := by decide +kernel
theorem dX5_runScript_146 : decode cX5_runScript 146 = .ok (.getfield 13, 3) := by decide +kernel
theorem dX5_runScript_149 : decode cX5_runScript 149 = .ok (.iconst 0, 1) := by decide +kernel
theorem dX5_runScript_150 : decode cX5_runScript 150 = .ok (.aload_n 0, 1) := by decide +kernel
theorem dX5_runScript_151 : decode cX5_runScript 151 = .ok (.getfield 7, 3) := by decide +kernel
theorem dX5_runScript_154 : decode cX5_runScript 154 = .ok (.iconst 0, 1) := by decide +kernel
theorem dX5_runScript_155 : decode cX5_runScript 155 = .ok (.invokestatic 131, 3) := by decide +kernel
theorem dX5_runScript_158 : decode cX5_runScript 158 = .ok (.iload 6, 2) := by decide +kernel
theorem dX5_runScript_160 : decode cX5_runScript 160 = .ok (.ireturn, 1) := by decide +kernel
set_option maxRecDepth 20000 in
theorem ggX5_simulate_X5_within : GoodIn wsX5_simulate wsX5_within := goodIn_r _ [9] (by decide +kernel) (by decide +kernel)
set_option maxRecDepth 20000 in
theorem gX5_simulate_X5_within : GoodIn wsX5_simulate (va_wsS RX5 42 yX5_within wsX5_within) := goodIn_app (goodIn_of _ (by decide +kernel)) ggX5_simulate_X5_within
set_option maxRecDepth 20000 in
theorem ggX5_simulate_X5_copy : GoodIn wsX5_simulate wsX5_copy := goodIn_r _ [12] (by decide +kernel) (by decide +kernel)
set_option maxRecDepth 20000 in
theorem gX5_simulate_X5_copy : GoodIn wsX5_simulate (va_wsS RX5 131 yX5_copy wsX5_copy) := goodIn_app (goodIn_of _ (by decide +kernel)) ggX5_simulate_X5_copy
set_option maxRecDepth 20000 in
theorem ggX5_simulate_X5_asked : GoodIn wsX5_simulate wsX5_asked := goodIn_r _ [16, 2, 17, 18, 19, 8, 20, 21, 22, 23, 24, 25, 26, 27, 28, 29, 30, 31, 32, 33, 34, 35, 36, 66, 67, 68, 69, 70, 71, 72, 73, 74, 75, 76] (by decide +kernel) (by decide +kernel)
set_option maxRecDepth 20000 in
theorem gX5_simulate_X5_asked : GoodIn wsX5_simulate (wsV RX5 118 RX5 yX5_asked wsX5_asked) := goodIn_app (goodIn_of _ (by decide +kernel)) ggX5_simulate_X5_asked
set_option maxRecDepth 20000 in
theorem ggX5_simulate_X5_written : GoodIn wsX5_simulate wsX5_written := goodIn_r _ [40, 2, 25, 26, 27, 8, 28, 6, 7, 9, 29, 30, 31, 32, 66, 67, 68, 69, 70, 71, 72, 73, 74, 75, 76] (by decide +kernel) (by decide +kernel)
set_option maxRecDepth 20000 in
theorem gX5_simulate_X5_written : GoodIn wsX5_simulate (wsV RX5 108 RX5 yX5_written wsX5_written) := goodIn_app (goodIn_of _ (by decide +kernel)) ggX5_simulate_X5_written
set_option maxRecDepth 20000 in
theorem ggX5_simulate_X5_knownMany : GoodIn wsX5_simulate wsX5_knownMany := goodIn_r _ [44, 45, 46, 47, 48, 8, 49, 2, 25, 26, 27, 28, 50, 51, 52, 53, 54, 55, 56, 57, 58, 59, 60, 61, 62, 63, 64, 65, 66, 67, 68, 69, 70, 71, 72, 73, 74, 75, 76] (by decide +kernel) (by decide +kernel)
set_option maxRecDepth 20000 in
theorem gX5_simulate_X5_knownMany : GoodIn wsX5_simulate (wsV RX5 171 RX5 yX5_knownMany wsX5_knownMany) := goodIn_app (goodIn_of _ (by decide +kernel)) ggX5_simulate_X5_knownMany
theorem dX5_simulate_0 : decode cX5_simulate 0 = .ok (.aload_n 0, 1) := by decide +kernel
theorem dX5_simulate_1 : decode cX5_simulate 1 = .ok (.iload_n 3, 1) := by decide +kernel
theorem dX5_simulate_2 : decode cX5_simulate 2 = .ok (.iconst 1, 1) := by decide +kernel
theorem dX5_simulate_3 : decode cX5_simulate 3 = .ok (.bipush 30, 2) := by decide +kernel
theorem dX5_simulate_5 : decode cX5_simulate 5 = .ok (.invokestatic 42, 3) := by decide +kernel
theorem dX5_simulate_8 : decode cX5_simulate 8 = .ok (.ifCond .eq 7, 3) := by decide +kernel
theorem dX5_simulate_11 : decode cX5_simulate 11 = .ok (.iconst 0, 1) := by decide +kernel
theorem dX5_simulate_12 : decode cX5_simulate 12 = .ok (.goto 4, 3) := by decide +kernel
theorem dX5_simulate_15 : decode cX5_simulate 15 = .ok (.iconst 1, 1) := by decide +kernel
theorem dX5_simulate_16 : decode cX5_simulate 16 = .ok (.putfield 38, 3) := by decide +kernel
theorem dX5_simulate_19 : decode cX5_simulate 19 = .ok (.aload_n 0, 1) := by decide +kernel
theorem dX5_simulate_20 : decode cX5_simulate 20 = .ok (.getfield 38, 3) := by decide +kernel
theorem dX5_simulate_23 : decode cX5_simulate 23 = .ok (.ifCond .le 5, 3) := by decide +kernel
theorem dX5_simulate_26 : decode cX5_simulate 26 = .ok (.iconst 0, 1) := by decide +kernel
theorem dX5_simulate_27 : decode cX5_simulate 27 = .ok (.ireturn, 1) := by decide +kernel
theorem dX5_simulate_28 : decode cX5_simulate 28 = .ok (.aload_n 0, 1) := by decide +kernel
theorem dX5_simulate_29 : decode cX5_simulate 29 = .ok (.getfield 7, 3) := by decide +kernel
theorem dX5_simulate_32 : decode cX5_simulate 32 = .ok (.iconst 0, 1) := by decide +kernel
theorem dX5_simulate_33 : decode cX5_simulate 33 = .ok (.aload_n 0, 1) := by decide +kernel
theorem dX5_simulate_34 : decode cX5_simulate 34 = .ok (.getfield 13, 3) := by decide +kernel
theorem dX5_simulate_37 : decode cX5_simulate 37 = .ok (.iconst 0, 1) := by decide +kernel
theorem dX5_simulate_38 : decode cX5_simulate 38 = .ok (.invokestatic 131, 3) := by decide +kernel
theorem dX5_simulate_41 : decode cX5_simulate 41 = .ok (.lload_n 1, 1) := by decide +kernel
theorem dX5_simulate_42 : decode cX5_simulate 42 = .ok (.lstore 4, 2) := by decide +kernel
theorem dX5_simulate_44 : decode cX5_simulate 44 = .ok (.iconst 0, 1) := by decide +kernel
theorem dX5_simulate_45 : decode cX5_simulate 45 = .ok (.istore 6, 2) := by decide +kernel
theorem dX5_simulate_47 : decode cX5_simulate 47 = .ok (.iload 6, 2) := by decide +kernel
theorem dX5_simulate_49 : decode cX5_simulate 49 = .ok (.iload_n 3, 1) := by decide +kernel
theorem dX5_simulate_50 : decode cX5_simulate 50 = .ok (.if_icmp .ge 116, 3) := by decide +kernel
theorem dX5_simulate_53 : decode cX5_simulate 53 = .ok (.lload 4, 2) := by decide +kernel
theorem dX5_simulate_55 : decode cX5_simulate 55 = .ok (.ldc2_w 183, 3) := by decide +kernel
theorem dX5_simulate_58 : decode cX5_simulate 58 = .ok (.lmul, 1) := by decide +kernel
theorem dX5_simulate_59 : decode cX5_simulate 59 = .ok (.ldc2_w 185, 3) := by decide +kernel
theorem dX5_simulate_62 : decode cX5_simulate 62 = .ok (.ladd, 1) := by decide +kernel
theorem dX5_simulate_63 : decode cX5_simulate 63 = .ok (.lstore 4, 2) := by decide +kernel
theorem dX5_simulate_65 : decode cX5_simulate 65 = .ok (.lload 4, 2) := by decide +kernel
theorem dX5_simulate_67 : decode cX5_simulate 67 = .ok (.bipush 33, 2) := by decide +kernel
theorem dX5_simulate_69 : decode cX5_simulate 69 = .ok (.lushr, 1) := by decide +kernel
theorem dX5_simulate_70 : decode cX5_simulate 70 = .ok (.l2i, 1) := by decide +kernel
theorem dX5_simulate_71 : decode cX5_simulate 71 = .ok (.istore 7, 2) := by decide +kernel
theorem dX5_simulate_73 : decode cX5_simulate 73 = .ok (.iload 7, 2) := by decide +kernel
theorem dX5_simulate_75 : decode cX5_simulate 75 = .ok (.bipush 8, 2) := by decide +kernel
theorem dX5_simulate_77 : decode cX5_simulate 77 = .ok (.idiv, 1) := by decide +kernel
theorem dX5_simulate_78 : decode cX5_simulate 78 = .ok (.aload_n 0, 1) := by decide +kernel
theorem dX5_simulate_79 : decode cX5_simulate 79 = .ok (.getfield 7, 3) := by decide +kernel
theorem dX5_simulate_82 : decode cX5_simulate 82 = .ok (.iconst 0, 1) := by decide +kernel
theorem dX5_simulate_83 : decode cX5_simulate 83 = .ok (.iaload, 1) := by decide +kernel
theorem dX5_simulate_84 : decode cX5_simulate 84 = .ok (.irem, 1) := by decide +kernel
theorem dX5_simulate_85 : decode cX5_simulate 85 = .ok (.istore 8, 2) := by decide +kernel
theorem dX5_simulate_87 : decode cX5_simulate 87 = .ok (.iload 8, 2) := by decide +kernel
theorem dX5_simulate_89 : decode cX5_simulate 89 = .ok (.aload_n 0, 1) := by decide +kernel
theorem dX5_simulate_90 : decode cX5_simulate 90 = .ok (.getfield 7, 3) := by decide +kernel
theorem dX5_simulate_93 : decode cX5_simulate 93 = .ok (.iconst 1, 1) := by decide +kernel
theorem dX5_simulate_94 : decode cX5_simulate 94 = .ok (.iaload, 1) := by decide +kernel
theorem dX5_simulate_95 : decode cX5_simulate 95 = .ok (.iadd, 1) := by decide +kernel
theorem dX5_simulate_96 : decode cX5_simulate 96 = .ok (.iconst 1, 1) := by decide +kernel
theorem dX5_simulate_97 : decode cX5_simulate 97 = .ok (.isub, 1) := by decide +kernel
theorem dX5_simulate_98 : decode cX5_simulate 98 = .ok (.iload 7, 2) := by decide +kernel
theorem dX5_simulate_100 : decode cX5_simulate 100 = .ok (.sipush 512, 3) := by decide +kernel
theorem dX5_simulate_103 : decode cX5_simulate 103 = .ok (.idiv, 1) := by decide +kernel
theorem dX5_simulate_104 : decode cX5_simulate 104 = .ok (.bipush 8, 2) := by decide +kernel
theorem dX5_simulate_106 : decode cX5_simulate 106 = .ok (.irem, 1) := by decide +kernel
theorem dX5_simulate_107 : decode cX5_simulate 107 = .ok (.iadd, 1) := by decide +kernel
theorem dX5_simulate_108 : decode cX5_simulate 108 = .ok (.istore 9, 2) := by decide +kernel
theorem dX5_simulate_110 : decode cX5_simulate 110 = .ok (.iload 9, 2) := by decide +kernel
theorem dX5_simulate_112 : decode cX5_simulate 112 = .ok (.aload_n 0, 1) := by decide +kernel
theorem dX5_simulate_113 : decode cX5_simulate 113 = .ok (.getfield 7, 3) := by decide +kernel
theorem dX5_simulate_116 : decode cX5_simulate 116 = .ok (.iconst 0, 1) := by decide +kernel
theorem dX5_simulate_117 : decode cX5_simulate 117 = .ok (.iaload, 1) := by decide +kernel
theorem dX5_simulate_118 : decode cX5_simulate 118 = .ok (.if_icmp .ge 15, 3) := by decide +kernel
theorem dX5_simulate_121 : decode cX5_simulate 121 = .ok (.aload_n 0, 1) := by decide +kernel
theorem dX5_simulate_122 : decode cX5_simulate 122 = .ok (.iload 8, 2) := by decide +kernel
theorem dX5_simulate_124 : decode cX5_simulate 124 = .ok (.iload 9, 2) := by decide +kernel
theorem dX5_simulate_126 : decode cX5_simulate 126 = .ok (.invokevirtual 118, 3) := by decide +kernel
theorem dX5_simulate_129 : decode cX5_simulate 129 = .ok (.pop, 1) := by decide +kernel
theorem dX5_simulate_130 : decode cX5_simulate 130 = .ok (.goto 30, 3) := by decide +kernel
theorem dX5_simulate_133 : decode cX5_simulate 133 = .ok (.iload 7, 2) := by decide +kernel
theorem dX5_simulate_135 : decode cX5_simulate 135 = .ok (.bipush 8, 2) := by decide +kernel
theorem dX5_simulate_137 : decode cX5_simulate 137 = .ok (.irem, 1) := by decide +kernel
theorem dX5_simulate_138 : decode cX5_simulate 138 = .ok (.ifCond .ne 22, 3) := by decide +kernel
theorem dX5_simulate_141 : decode cX5_simulate 141 = .ok (.aload_n 0, 1) := by decide +kernel
theorem dX5_simulate_142 : decode cX5_simulate 142 = .ok (.iload 8, 2) := by decide +kernel
theorem dX5_simulate_144 : decode cX5_simulate 144 = .ok (.iconst 1, 1) := by decide +kernel
theorem dX5_simulate_145 : decode cX5_simulate 145 = .ok (.aload_n 0, 1) := by decide +kernel
theorem dX5_simulate_146 : decode cX5_simulate 146 = .ok (.getfield 7, 3) := by decide +kernel
theorem dX5_simulate_149 : decode cX5_simulate 149 = .ok (.bipush 8, 2) := by decide +kernel
theorem dX5_simulate_151 : decode cX5_simulate 151 = .ok (.iload 8, 2) := by decide +kernel
theorem dX5_simulate_153 : decode cX5_simulate 153 = .ok (.iadd, 1) := by decide +kernel
theorem dX5_simulate_154 : decode cX5_simulate 154 = .ok (.iaload, 1) := by decide +kernel
theorem dX5_simulate_155 : decode cX5_simulate 155 = .ok (.isub, 1) := by decide +kernel
theorem dX5_simulate_156 : decode cX5_simulate 156 = .ok (.invokevirtual 108, 3) := by decide +kernel
theorem dX5_simulate_159 : decode cX5_simulate 159 = .ok (.pop, 1) := by decide +kernel
theorem dX5_simulate_160 : decode cX5_simulate 160 = .ok (.iinc 6 1, 3) := by decide +kernel
theorem dX5_simulate_163 : decode cX5_simulate 163 = .ok (.goto (-116), 3) := by decide +kernel
theorem dX5_simulate_166 : decode cX5_simulate 166 = .ok (.aload_n 0, 1) := by decide +kernel
theorem dX5_simulate_167 : decode cX5_simulate 167 = .ok (.invokevirtual 171, 3) := by decide +kernel
theorem dX5_simulate_170 : decode cX5_simulate 170 = .ok (.istore 6, 2) := by decide +kernel
theorem dX5_simulate_172 : decode cX5_simulate 172 = .ok (.aload_n 0, 1) := by decide +kernel
theorem dX5_simulate_173 : decode cX5_simulate 173 = .ok (.getfield 7, 3) := by decide +kernel
theorem dX5_simulate_176 : decode cX5_simulate 176 = .ok (.iconst 5, 1) := by decide +kernel
theorem dX5_simulate_177 : decode cX5_simulate 177 = .ok (.iaload, 1) := by decide +kernel
theorem dX5_simulate_178 : decode cX5_simulate 178 = .ok (.aload_n 0, 1) := by decide +kernel
theorem dX5_simulate_179 : decode cX5_simulate 179 = .ok (.getfield 13, 3) := by decide +kernel
theorem dX5_simulate_182 : decode cX5_simulate 182 = .ok (.iconst 5, 1) := by decide +kernel
theorem dX5_simulate_183 : decode cX5_simulate 183 = .ok (.iaload, 1) := by decide +kernel
theorem dX5_simulate_184 : decode cX5_simulate 184 = .ok (.isub, 1) := by decide +kernel
theorem dX5_simulate_185 : decode cX5_simulate 185 = .ok (.istore 7, 2) := by decide +kernel
theorem dX5_simulate_187 : decode cX5_simulate 187 = .ok (.aload_n 0, 1) := by decide +kernel
theorem dX5_simulate_188 : decode cX5_simulate 188 = .ok (.getfield 13, 3) := by decide +kernel
theorem dX5_simulate_191 : decode cX5_simulate 191 = .ok (.iconst 0, 1) := by decide +kernel
theorem dX5_simulate_192 : decode cX5_simulate 192 = .ok (.aload_n 0, 1) := by decide +kernel
theorem dX5_simulate_193 : decode cX5_simulate 193 = .ok (.getfield 7, 3) := by decide +kernel
theorem dX5_simulate_196 : decode cX5_simulate 196 = .ok (.iconst 0, 1) := by decide +kernel
theorem dX5_simulate_197 : decode cX5_simulate 197 = .ok (.invokestatic 131, 3) := by decide +kernel
theorem dX5_simulate_200 : decode cX5_simulate 200 = .ok (.sipush 1000, 3) := by decide +kernel
theorem dX5_simulate_203 : decode cX5_simulate 203 = .ok (.iload 6, 2) := by decide +kernel
theorem dX5_simulate_205 : decode cX5_simulate 205 = .ok (.imul, 1) := by decide +kernel
theorem dX5_simulate_206 : decode cX5_simulate 206 = .ok (.iload 7, 2) := by decide +kernel
theorem dX5_simulate_208 : decode cX5_simulate 208 = .ok (.sipush 999, 3) := by decide +kernel
theorem dX5_simulate_211 : decode cX5_simulate 211 = .ok (.if_icmp .ge 8, 3) := by decide +kernel
theorem dX5_simulate_214 : decode cX5_simulate 214 = .ok (.iload 7, 2) := by decide +kernel
theorem dX5_simulate_216 : decode cX5_simulate 216 = .ok (.goto 6, 3) := by decide +kernel
theorem dX5_simulate_219 : decode cX5_simulate 219 = .ok (.sipush 999, 3) := by decide +kernel
theorem dX5_simulate_222 : decode cX5_simulate 222 = .ok (.iadd, 1) := by decide +kernel
theorem dX5_simulate_223 : decode cX5_simulate 223 = .ok (.ireturn, 1) := by decide +kernel
theorem dX5_isSlot_0 : decode cX5_isSlot 0 = .ok (.iload_n 0, 1) := by decide +kernel
theorem dX5_isSlot_1 : decode cX5_isSlot 1 = .ok (.ifCond .eq 8, 3) := by decide +kernel
theorem dX5_isSlot_4 : decode cX5_isSlot 4 = .ok (.iload_n 0, 1) := by decide +kernel
theorem dX5_isSlot_5 : decode cX5_isSlot 5 = .ok (.iconst 1, 1) := by decide +kernel
theorem dX5_isSlot_6 : decode cX5_isSlot 6 = .ok (.if_icmp .ne 7, 3) := by decide +kernel
theorem dX5_isSlot_9 : decode cX5_isSlot 9 = .ok (.iconst 1, 1) := by decide +kernel
theorem dX5_isSlot_10 : decode cX5_isSlot 10 = .ok (.goto 4, 3) := by decide +kernel
theorem dX5_isSlot_13 : decode cX5_isSlot 13 = .ok (.iconst 0, 1) := by decide +kernel
theorem dX5_isSlot_14 : decode cX5_isSlot 14 = .ok (.ireturn, 1) := by decide +kernel
set_option maxRecDepth 20000 in
theorem ggX5_save_X5_isSlot : GoodIn wsX5_save wsX5_isSlot := goodIn_r _ [8] (by decide +kernel) (by decide +kernel)
set_option maxRecDepth 20000 in
theorem gX5_save_X5_isSlot : GoodIn wsX5_save (va_wsS RX5 187 yX5_isSlot wsX5_isSlot) := goodIn_app (goodIn_of _ (by decide +kernel)) ggX5_save_X5_isSlot
set_option maxRecDepth 20000 in
theorem ggX5_save_X5_copy : GoodIn wsX5_save wsX5_copy := goodIn_r _ [11] (by decide +kernel) (by decide +kernel)
set_option maxRecDepth 20000 in
theorem gX5_save_X5_copy : GoodIn wsX5_save (va_wsS RX5 131 yX5_copy wsX5_copy) := goodIn_app (goodIn_of _ (by decide +kernel)) ggX5_save_X5_copy
theorem dX5_save_0 : decode cX5_save 0 = .ok (.aload_n 0, 1) := by decide +kernel
theorem dX5_save_1 : decode cX5_save 1 = .ok (.iload_n 1, 1) := by decide +kernel
theorem dX5_save_2 : decode cX5_save 2 = .ok (.invokestatic 187, 3) := by decide +kernel
theorem dX5_save_5 : decode cX5_save 5 = .ok (.ifCond .eq 7, 3) := by decide +kernel
theorem dX5_save_8 : decode cX5_save 8 = .ok (.iconst 0, 1) := by decide +kernel
theorem dX5_save_9 : decode cX5_save 9 = .ok (.goto 4, 3) := by decide +kernel
theorem dX5_save_12 : decode cX5_save 12 = .ok (.iconst 1, 1) := by decide +kernel
theorem dX5_save_13 : decode cX5_save 13 = .ok (.putfield 38, 3) := by decide +kernel
theorem dX5_save_16 : decode cX5_save 16 = .ok (.aload_n 0, 1) := by decide +kernel
theorem dX5_save_17 : decode cX5_save 17 = .ok (.getfield 38, 3) := by decide +kernel
theorem dX5_save_20 : decode cX5_save 20 = .ok (.ifCond .le 5, 3) := by decide +kernel
theorem dX5_save_23 : decode cX5_save 23 = .ok (.iconst 0, 1) := by decide +kernel
theorem dX5_save_24 : decode cX5_save 24 = .ok (.ireturn, 1) := by decide +kernel
theorem dX5_save_25 : decode cX5_save 25 = .ok (.aload_n 0, 1) := by decide +kernel
theorem dX5_save_26 : decode cX5_save 26 = .ok (.getfield 7, 3) := by decide +kernel
theorem dX5_save_29 : decode cX5_save 29 = .ok (.iconst 0, 1) := by decide +kernel
theorem dX5_save_30 : decode cX5_save 30 = .ok (.aload_n 0, 1) := by decide +kernel
theorem dX5_save_31 : decode cX5_save 31 = .ok (.getfield 19, 3) := by decide +kernel
theorem dX5_save_34 : decode cX5_save 34 = .ok (.bipush 96, 2) := by decide +kernel
theorem dX5_save_36 : decode cX5_save 36 = .ok (.iload_n 1, 1) := by decide +kernel
theorem dX5_save_37 : decode cX5_save 37 = .ok (.imul, 1) := by decide +kernel
theorem dX5_save_38 : decode cX5_save 38 = .ok (.invokestatic 131, 3) := by decide +kernel
theorem dX5_save_41 : decode cX5_save 41 = .ok (.aload_n 0, 1) := by decide +kernel
theorem dX5_save_42 : decode cX5_save 42 = .ok (.getfield 22, 3) := by decide +kernel
theorem dX5_save_45 : decode cX5_save 45 = .ok (.iload_n 1, 1) := by decide +kernel
theorem dX5_save_46 : decode cX5_save 46 = .ok (.iconst 1, 1) := by decide +kernel
theorem dX5_save_47 : decode cX5_save 47 = .ok (.iastore, 1) := by decide +kernel
theorem dX5_save_48 : decode cX5_save 48 = .ok (.aload_n 0, 1) := by decide +kernel
theorem dX5_save_49 : decode cX5_save 49 = .ok (.getfield 7, 3) := by decide +kernel
theorem dX5_save_52 : decode cX5_save 52 = .ok (.iconst 4, 1) := by decide +kernel
theorem dX5_save_53 : decode cX5_save 53 = .ok (.iaload, 1) := by decide +kernel
theorem dX5_save_54 : decode cX5_save 54 = .ok (.ireturn, 1) := by decide +kernel
set_option maxRecDepth 20000 in
theorem ggX5_restore_X5_isSlot : GoodIn wsX5_restore wsX5_isSlot := goodIn_r _ [9] (by decide +kernel) (by decide +kernel)
set_option maxRecDepth 20000 in
theorem gX5_restore_X5_isSlot : GoodIn wsX5_restore (va_wsS RX5 187 yX5_isSlot wsX5_isSlot) := goodIn_app (goodIn_of _ (by decide +kernel)) ggX5_restore_X5_isSlot
set_option maxRecDepth 20000 in
theorem ggX5_restore_X5_copy : GoodIn wsX5_restore wsX5_copy := goodIn_r _ [12] (by decide +kernel) (by decide +kernel)
set_option maxRecDepth 20000 in
theorem gX5_restore_X5_copy : GoodIn wsX5_restore (va_wsS RX5 131 yX5_copy wsX5_copy) := goodIn_app (goodIn_of _ (by decide +kernel)) ggX5_restore_X5_copy
theorem dX5_restore_0 : decode cX5_restore 0 = .ok (.aload_n 0, 1) := by decide +kernel
theorem dX5_restore_1 : decode cX5_restore 1 = .ok (.iload_n 1, 1) := by decide +kernel
theorem dX5_restore_2 : decode cX5_restore 2 = .ok (.invokestatic 187, 3) := by decide +kernel
theorem dX5_restore_5 : decode cX5_restore 5 = .ok (.ifCond .ne 7, 3) := by decide +kernel
theorem dX5_restore_8 : decode cX5_restore 8 = .ok (.iconst 1, 1) := by decide +kernel
theorem dX5_restore_9 : decode cX5_restore 9 = .ok (.goto 18, 3) := by decide +kernel
theorem dX5_restore_12 : decode cX5_restore 12 = .ok (.aload_n 0, 1) := by decide +kernel
theorem dX5_restore_13 : decode cX5_restore 13 = .ok (.getfield 22, 3) := by decide +kernel
theorem dX5_restore_16 : decode cX5_restore 16 = .ok (.iload_n 1, 1) := by decide +kernel
theorem dX5_restore_17 : decode cX5_restore 17 = .ok (.iaload, 1) := by decide +kernel
theorem dX5_restore_18 : decode cX5_restore 18 = .ok (.iconst 1, 1) := by decide +kernel
theorem dX5_restore_19 : decode cX5_restore 19 = .ok (.if_icmp .ne 7, 3) := by decide +kernel
theorem dX5_restore_22 : decode cX5_restore 22 = .ok (.iconst 0, 1) := by decide +kernel
theorem dX5_restore_23 : decode cX5_restore 23 = .ok (.goto 4, 3) := by decide +kernel
theorem dX5_restore_26 : decode cX5_restore 26 = .ok (.iconst 2, 1) := by decide +kernel
theorem dX5_restore_27 : decode cX5_restore 27 = .ok (.putfield 38, 3) := by decide +kernel
theorem dX5_restore_30 : decode cX5_restore 30 = .ok (.aload_n 0, 1) := by decide +kernel
theorem dX5_restore_31 : decode cX5_restore 31 = .ok (.getfield 38, 3) := by decide +kernel
theorem dX5_restore_34 : decode cX5_restore 34 = .ok (.ifCond .le 5, 3) := by decide +kernel
theorem dX5_restore_37 : decode cX5_restore 37 = .ok (.iconst 0, 1) := by decide +kernel
theorem dX5_restore_38 : decode cX5_restore 38 = .ok (.ireturn, 1) := by decide +kernel
theorem dX5_restore_39 : decode cX5_restore 39 = .ok (.aload_n 0, 1) := by decide +kernel
theorem dX5_restore_40 : decode cX5_restore 40 = .ok (.getfield 19, 3) := by decide +kernel
theorem dX5_restore_43 : decode cX5_restore 43 = .ok (.bipush 96, 2) := by decide +kernel
theorem dX5_restore_45 : decode cX5_restore 45 = .ok (.iload_n 1, 1) := by decide +kernel
theorem dX5_restore_46 : decode cX5_restore 46 = .ok (.imul, 1) := by decide +kernel
theorem dX5_restore_47 : decode cX5_restore 47 = .ok (.aload_n 0, 1) := by decide +kernel
theorem dX5_restore_48 : decode cX5_restore 48 = .ok (.getfield 7, 3) := by decide +kernel
theorem dX5_restore_51 : decode cX5_restore 51 = .ok (.iconst 0, 1) := by decide +kernel
theorem dX5_restore_52 : decode cX5_restore 52 = .ok (.invokestatic 131, 3) := by decide +kernel
theorem dX5_restore_55 : decode cX5_restore 55 = .ok (.aload_n 0, 1) := by decide +kernel
theorem dX5_restore_56 : decode cX5_restore 56 = .ok (.iconst 0, 1) := by decide +kernel
theorem dX5_restore_57 : decode cX5_restore 57 = .ok (.putfield 105, 3) := by decide +kernel
theorem dX5_restore_60 : decode cX5_restore 60 = .ok (.aload_n 0, 1) := by decide +kernel
theorem dX5_restore_61 : decode cX5_restore 61 = .ok (.getfield 7, 3) := by decide +kernel
theorem dX5_restore_64 : decode cX5_restore 64 = .ok (.iconst 4, 1) := by decide +kernel
theorem dX5_restore_65 : decode cX5_restore 65 = .ok (.iaload, 1) := by decide +kernel
theorem dX5_restore_66 : decode cX5_restore 66 = .ok (.ireturn, 1) := by decide +kernel
