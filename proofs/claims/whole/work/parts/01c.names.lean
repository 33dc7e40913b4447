theorem dX5_renew_15 : decode cX5_renew 15 = .ok (.aload_n 0, 1) := by decide +kernel
theorem dX5_renew_16 : decode cX5_renew 16 = .ok (.getfield 9, 3) := by decide +kernel
theorem dX5_renew_19 : decode cX5_renew 19 = .ok (.iconst 0, 1) := by decide +kernel
theorem dX5_renew_20 : decode cX5_renew 20 = .ok (.invokestatic 32, 3) := by decide +kernel
theorem dX5_renew_23 : decode cX5_renew 23 = .ok (.return_, 1) := by decide +kernel
theorem dX5_clear_0 : decode cX5_clear 0 = .ok (.aload_n 0, 1) := by decide +kernel
theorem dX5_clear_1 : decode cX5_clear 1 = .ok (.iconst (-1), 1) := by decide +kernel
theorem dX5_clear_2 : decode cX5_clear 2 = .ok (.putfield 15, 3) := by decide +kernel
theorem dX5_clear_5 : decode cX5_clear 5 = .ok (.aload_n 0, 1) := by decide +kernel
theorem dX5_clear_6 : decode cX5_clear 6 = .ok (.iconst 0, 1) := by decide +kernel
theorem dX5_clear_7 : decode cX5_clear 7 = .ok (.putfield 19, 3) := by decide +kernel
theorem dX5_clear_10 : decode cX5_clear 10 = .ok (.return_, 1) := by decide +kernel
set_option maxRecDepth 20000 in
theorem ggX5_at_X5_has : GoodIn wsX5_at wsX5_has := goodIn_r _ [6, 7, 8, 9, 10, 11, 12, 13] (by decide +kernel) (by decide +kernel)
set_option maxRecDepth 20000 in
theorem gX5_at_X5_has : GoodIn wsX5_at (wsV RX5 38 RX5 yX5_has wsX5_has) := goodIn_app (goodIn_of _ (by decide +kernel)) ggX5_at_X5_has
theorem dX5_at_0 : decode cX5_at 0 = .ok (.aload_n 0, 1) := by decide +kernel
theorem dX5_at_1 : decode cX5_at 1 = .ok (.iload_n 1, 1) := by decide +kernel
theorem dX5_at_2 : decode cX5_at 2 = .ok (.invokevirtual 38, 3) := by decide +kernel
theorem dX5_at_5 : decode cX5_at 5 = .ok (.ifCond .eq 12, 3) := by decide +kernel
theorem dX5_at_8 : decode cX5_at 8 = .ok (.aload_n 0, 1) := by decide +kernel
theorem dX5_at_9 : decode cX5_at 9 = .ok (.getfield 9, 3) := by decide +kernel
theorem dX5_at_12 : decode cX5_at 12 = .ok (.iload_n 1, 1) := by decide +kernel
theorem dX5_at_13 : decode cX5_at 13 = .ok (.iaload, 1) := by decide +kernel
theorem dX5_at_14 : decode cX5_at 14 = .ok (.goto 4, 3) := by decide +kernel
theorem dX5_at_17 : decode cX5_at 17 = .ok (.iconst 0, 1) := by decide +kernel
theorem dX5_at_18 : decode cX5_at 18 = .ok (.ireturn, 1) := by decide +kernel
set_option maxRecDepth 20000 in
theorem ggX5_set_X5_has : GoodIn wsX5_set wsX5_has := goodIn_r _ [6, 7, 8, 9, 10, 16, 17, 18] (by decide +kernel) (by decide +kernel)
set_option maxRecDepth 20000 in
theorem gX5_set_X5_has : GoodIn wsX5_set (wsV RX5 38 RX5 yX5_has wsX5_has) := goodIn_app (goodIn_of _ (by decide +kernel)) ggX5_set_X5_has
set_option maxRecDepth 20000 in
theorem ggX5_set_X5_cut : GoodIn wsX5_set wsX5_cut := goodIn_r _ [14, 15, 16, 17, 18] (by decide +kernel) (by decide +kernel)
set_option maxRecDepth 20000 in
theorem gX5_set_X5_cut : GoodIn wsX5_set (wsV RX5 42 RX5 yX5_cut wsX5_cut) := goodIn_app (goodIn_of _ (by decide +kernel)) ggX5_set_X5_cut
theorem dX5_set_0 : decode cX5_set 0 = .ok (.aload_n 0, 1) := by decide +kernel
theorem dX5_set_1 : decode cX5_set 1 = .ok (.iload_n 1, 1) := by decide +kernel
theorem dX5_set_2 : decode cX5_set 2 = .ok (.invokevirtual 38, 3) := by decide +kernel
theorem dX5_set_5 : decode cX5_set 5 = .ok (.ifCond .eq 14, 3) := by decide +kernel
theorem dX5_set_8 : decode cX5_set 8 = .ok (.aload_n 0, 1) := by decide +kernel
theorem dX5_set_9 : decode cX5_set 9 = .ok (.getfield 9, 3) := by decide +kernel
theorem dX5_set_12 : decode cX5_set 12 = .ok (.iload_n 1, 1) := by decide +kernel
theorem dX5_set_13 : decode cX5_set 13 = .ok (.aload_n 0, 1) := by decide +kernel
theorem dX5_set_14 : decode cX5_set 14 = .ok (.iload_n 2, 1) := by decide +kernel
theorem dX5_set_15 : decode cX5_set 15 = .ok (.invokevirtual 42, 3) := by decide +kernel
theorem dX5_set_18 : decode cX5_set 18 = .ok (.iastore, 1) := by decide +kernel
theorem dX5_set_19 : decode cX5_set 19 = .ok (.return_, 1) := by decide +kernel
theorem dX5_cut_0 : decode cX5_cut 0 = .ok (.aload_n 0, 1) := by decide +kernel
theorem dX5_cut_1 : decode cX5_cut 1 = .ok (.getfield 15, 3) := by decide +kernel
theorem dX5_cut_4 : decode cX5_cut 4 = .ok (.lookupswitch 34 #[(0, 28), (1, 31)], 28) := by decide +kernel
theorem dX5_cut_32 : decode cX5_cut 32 = .ok (.iload_n 1, 1) := by decide +kernel
theorem dX5_cut_33 : decode cX5_cut 33 = .ok (.i2b, 1) := by decide +kernel
theorem dX5_cut_34 : decode cX5_cut 34 = .ok (.ireturn, 1) := by decide +kernel
theorem dX5_cut_35 : decode cX5_cut 35 = .ok (.iload_n 1, 1) := by decide +kernel
theorem dX5_cut_36 : decode cX5_cut 36 = .ok (.i2s, 1) := by decide +kernel
theorem dX5_cut_37 : decode cX5_cut 37 = .ok (.ireturn, 1) := by decide +kernel
theorem dX5_cut_38 : decode cX5_cut 38 = .ok (.iload_n 1, 1) := by decide +kernel
theorem dX5_cut_39 : decode cX5_cut 39 = .ok (.ireturn, 1) := by decide +kernel
set_option maxRecDepth 20000 in
theorem ggX5_faultOfTaking_X5_hasNothing : GoodIn wsX5_faultOfTaking wsX5_hasNothing := goodIn_r _ [6, 1, 12, 13, 14] (by decide +kernel) (by decide +kernel)
set_option maxRecDepth 20000 in
theorem gX5_faultOfTaking_X5_hasNothing : GoodIn wsX5_faultOfTaking (wsV RX5 46 RX5 yX5_hasNothing wsX5_hasNothing) := goodIn_app (goodIn_of _ (by decide +kernel)) ggX5_faultOfTaking_X5_hasNothing
set_option maxRecDepth 20000 in
theorem ggX5_faultOfTaking_X5_reaches : GoodIn wsX5_faultOfTaking wsX5_reaches := goodIn_r _ [10, 11, 12, 13, 14] (by decide +kernel) (by decide +kernel)
set_option maxRecDepth 20000 in
theorem gX5_faultOfTaking_X5_reaches : GoodIn wsX5_faultOfTaking (wsV RX5 50 RX5 yX5_reaches wsX5_reaches) := goodIn_app (goodIn_of _ (by decide +kernel)) ggX5_faultOfTaking_X5_reaches
theorem dX5_faultOfTaking_0 : decode cX5_faultOfTaking 0 = .ok (.aload_n 0, 1) := by decide +kernel
theorem dX5_faultOfTaking_1 : decode cX5_faultOfTaking 1 = .ok (.invokevirtual 46, 3) := by decide +kernel
theorem dX5_faultOfTaking_4 : decode cX5_faultOfTaking 4 = .ok (.ifCond .ne 13, 3) := by decide +kernel
theorem dX5_faultOfTaking_7 : decode cX5_faultOfTaking 7 = .ok (.aload_n 0, 1) := by decide +kernel
theorem dX5_faultOfTaking_8 : decode cX5_faultOfTaking 8 = .ok (.getfield 15, 3) := by decide +kernel
theorem dX5_faultOfTaking_11 : decode cX5_faultOfTaking 11 = .ok (.iload_n 1, 1) := by decide +kernel
theorem dX5_faultOfTaking_12 : decode cX5_faultOfTaking 12 = .ok (.if_icmp .eq 5, 3) := by decide +kernel
theorem dX5_faultOfTaking_15 : decode cX5_faultOfTaking 15 = .ok (.iconst 2, 1) := by decide +kernel
theorem dX5_faultOfTaking_16 : decode cX5_faultOfTaking 16 = .ok (.ireturn, 1) := by decide +kernel
theorem dX5_faultOfTaking_17 : decode cX5_faultOfTaking 17 = .ok (.aload_n 0, 1) := by decide +kernel
theorem dX5_faultOfTaking_18 : decode cX5_faultOfTaking 18 = .ok (.invokevirtual 46, 3) := by decide +kernel
theorem dX5_faultOfTaking_21 : decode cX5_faultOfTaking 21 = .ok (.ifCond .eq 5, 3) := by decide +kernel
theorem dX5_faultOfTaking_24 : decode cX5_faultOfTaking 24 = .ok (.iconst 1, 1) := by decide +kernel
theorem dX5_faultOfTaking_25 : decode cX5_faultOfTaking 25 = .ok (.ireturn, 1) := by decide +kernel
theorem dX5_faultOfTaking_26 : decode cX5_faultOfTaking 26 = .ok (.iload_n 3, 1) := by decide +kernel
theorem dX5_faultOfTaking_27 : decode cX5_faultOfTaking 27 = .ok (.ifCond .ge 5, 3) := by decide +kernel
theorem dX5_faultOfTaking_30 : decode cX5_faultOfTaking 30 = .ok (.iconst 4, 1) := by decide +kernel
theorem dX5_faultOfTaking_31 : decode cX5_faultOfTaking 31 = .ok (.ireturn, 1) := by decide +kernel
theorem dX5_faultOfTaking_32 : decode cX5_faultOfTaking 32 = .ok (.aload_n 0, 1) := by decide +kernel
theorem dX5_faultOfTaking_33 : decode cX5_faultOfTaking 33 = .ok (.iload_n 2, 1) := by decide +kernel
theorem dX5_faultOfTaking_34 : decode cX5_faultOfTaking 34 = .ok (.iload_n 3, 1) := by decide +kernel
theorem dX5_faultOfTaking_35 : decode cX5_faultOfTaking 35 = .ok (.invokevirtual 50, 3) := by decide +kernel
theorem dX5_faultOfTaking_38 : decode cX5_faultOfTaking 38 = .ok (.ifCond .eq 7, 3) := by decide +kernel
theorem dX5_faultOfTaking_41 : decode cX5_faultOfTaking 41 = .ok (.iconst 0, 1) := by decide +kernel
theorem dX5_faultOfTaking_42 : decode cX5_faultOfTaking 42 = .ok (.goto 4, 3) := by decide +kernel
theorem dX5_faultOfTaking_45 : decode cX5_faultOfTaking 45 = .ok (.iconst 3, 1) := by decide +kernel
theorem dX5_faultOfTaking_46 : decode cX5_faultOfTaking 46 = .ok (.ireturn, 1) := by decide +kernel
set_option maxRecDepth 20000 in
theorem ggX5_hasOnlyBelow_X5_at : GoodIn wsX5_hasOnlyBelow wsX5_at := goodIn_r _ [5, 6, 7, 8, 9, 4, 10, 11, 12, 13, 14, 15, 16, 17] (by decide +kernel) (by decide +kernel)
set_option maxRecDepth 20000 in
theorem gX5_hasOnlyBelow_X5_at : GoodIn wsX5_hasOnlyBelow (wsV RX5 53 RX5 yX5_at wsX5_at) := goodIn_app (goodIn_of _ (by decide +kernel)) ggX5_hasOnlyBelow_X5_at
set_option maxRecDepth 20000 in
theorem ggX5_hasOnlyBelow_X8_isOneOf : GoodIn wsX5_hasOnlyBelow wsX8_isOneOf := goodIn_r _ [14] (by decide +kernel) (by decide +kernel)
set_option maxRecDepth 20000 in
theorem gX5_hasOnlyBelow_X8_isOneOf_n22 : GoodIn wsX5_hasOnlyBelow (wsX8_isOneOf) := ggX5_hasOnlyBelow_X8_isOneOf
theorem dX5_hasOnlyBelow_0 : decode cX5_hasOnlyBelow 0 = .ok (.iload_n 2, 1) := by decide +kernel
theorem dX5_hasOnlyBelow_1 : decode cX5_hasOnlyBelow 1 = .ok (.istore 4, 2) := by decide +kernel
theorem dX5_hasOnlyBelow_3 : decode cX5_hasOnlyBelow 3 = .ok (.iload 4, 2) := by decide +kernel
theorem dX5_hasOnlyBelow_5 : decode cX5_hasOnlyBelow 5 = .ok (.iload_n 2, 1) := by decide +kernel
theorem dX5_hasOnlyBelow_6 : decode cX5_hasOnlyBelow 6 = .ok (.iload_n 3, 1) := by decide +kernel
theorem dX5_hasOnlyBelow_7 : decode cX5_hasOnlyBelow 7 = .ok (.iadd, 1) := by decide +kernel
theorem dX5_hasOnlyBelow_8 : decode cX5_hasOnlyBelow 8 = .ok (.if_icmp .ge 24, 3) := by decide +kernel
theorem dX5_hasOnlyBelow_11 : decode cX5_hasOnlyBelow 11 = .ok (.aload_n 0, 1) := by decide +kernel
theorem dX5_hasOnlyBelow_12 : decode cX5_hasOnlyBelow 12 = .ok (.iload 4, 2) := by decide +kernel
theorem dX5_hasOnlyBelow_14 : decode cX5_hasOnlyBelow 14 = .ok (.invokevirtual 53, 3) := by decide +kernel
theorem dX5_hasOnlyBelow_17 : decode cX5_hasOnlyBelow 17 = .ok (.iload_n 1, 1) := by decide +kernel
theorem dX5_hasOnlyBelow_18 : decode cX5_hasOnlyBelow 18 = .ok (.invokestatic 22, 3) := by decide +kernel
theorem dX5_hasOnlyBelow_21 : decode cX5_hasOnlyBelow 21 = .ok (.ifCond .ne 5, 3) := by decide +kernel
theorem dX5_hasOnlyBelow_24 : decode cX5_hasOnlyBelow 24 = .ok (.iconst 0, 1) := by decide +kernel
theorem dX5_hasOnlyBelow_25 : decode cX5_hasOnlyBelow 25 = .ok (.ireturn, 1) := by decide +kernel
theorem dX5_hasOnlyBelow_26 : decode cX5_hasOnlyBelow 26 = .ok (.iinc 4 1, 3) := by decide +kernel
theorem dX5_hasOnlyBelow_29 : decode cX5_hasOnlyBelow 29 = .ok (.goto (-26), 3) := by decide +kernel
theorem dX5_hasOnlyBelow_32 : decode cX5_hasOnlyBelow 32 = .ok (.iconst 1, 1) := by decide +kernel
theorem dX5_hasOnlyBelow_33 : decode cX5_hasOnlyBelow 33 = .ok (.ireturn, 1) := by decide +kernel
set_option maxRecDepth 20000 in
theorem ggX6_init_X3_init : GoodIn wsX6_init wsX3_init := goodIn_r _ [14, 15, 2, 3, 16, 17, 18, 27, 28, 29] (by decide +kernel) (by decide +kernel)
set_option maxRecDepth 20000 in
theorem gX6_init_X3_init_n19 : GoodIn wsX6_init (wsX3_init) := ggX6_init_X3_init
theorem dX6_init_0 : decode cX6_init 0 = .ok (.aload_n 0, 1) := by decide +kernel
theorem dX6_init_1 : decode cX6_init 1 = .ok (.invokespecial 3, 3) := by decide +kernel
theorem dX6_init_4 : decode cX6_init 4 = .ok (.aload_n 0, 1) := by decide +kernel
theorem dX6_init_5 : decode cX6_init 5 = .ok (.bipush 6, 2) := by decide +kernel
theorem dX6_init_7 : decode cX6_init 7 = .ok (.anewarray 9, 3) := by decide +kernel
theorem dX6_init_10 : decode cX6_init 10 = .ok (.putfield 11, 3) := by decide +kernel
theorem dX6_init_13 : decode cX6_init 13 = .ok (.aload_n 0, 1) := by decide +kernel
theorem dX6_init_14 : decode cX6_init 14 = .ok (.new 17, 3) := by decide +kernel
theorem dX6_init_17 : decode cX6_init 17 = .ok (.dup, 1) := by decide +kernel
theorem dX6_init_18 : decode cX6_init 18 = .ok (.bipush 6, 2) := by decide +kernel
theorem dX6_init_20 : decode cX6_init 20 = .ok (.invokespecial 19, 3) := by decide +kernel
theorem dX6_init_23 : decode cX6_init 23 = .ok (.putfield 22, 3) := by decide +kernel
theorem dX6_init_26 : decode cX6_init 26 = .ok (.aload_n 0, 1) := by decide +kernel
theorem dX6_init_27 : decode cX6_init 27 = .ok (.new 17, 3) := by decide +kernel
theorem dX6_init_30 : decode cX6_init 30 = .ok (.dup, 1) := by decide +kernel
theorem dX6_init_31 : decode cX6_init 31 = .ok (.bipush 8, 2) := by decide +kernel
theorem dX6_init_33 : decode cX6_init 33 = .ok (.invokespecial 19, 3) := by decide +kernel
theorem dX6_init_36 : decode cX6_init 36 = .ok (.putfield 26, 3) := by decide +kernel
theorem dX6_init_39 : decode cX6_init 39 = .ok (.aload_n 0, 1) := by decide +kernel
theorem dX6_init_40 : decode cX6_init 40 = .ok (.new 17, 3) := by decide +kernel
theorem dX6_init_43 : decode cX6_init 43 = .ok (.dup, 1) := by decide +kernel
theorem dX6_init_44 : decode cX6_init 44 = .ok (.bipush 6, 2) := by decide +kernel
theorem dX6_init_46 : decode cX6_init 46 = .ok (.invokespecial 19, 3) := by decide +kernel
theorem dX6_init_49 : decode cX6_init 49 = .ok (.putfield 29, 3) := by decide +kernel
theorem dX6_init_52 : decode cX6_init 52 = .ok (.aload_n 0, 1) := by decide +kernel
theorem dX6_init_53 : decode cX6_init 53 = .ok (.new 17, 3) := by decide +kernel
theorem dX6_init_56 : decode cX6_init 56 = .ok (.dup, 1) := by decide +kernel
theorem dX6_init_57 : decode cX6_init 57 = .ok (.bipush 8, 2) := by decide +kernel
theorem dX6_init_59 : decode cX6_init 59 = .ok (.invokespecial 19, 3) := by decide +kernel
theorem dX6_init_62 : decode cX6_init 62 = .ok (.putfield 32, 3) := by decide +kernel
theorem dX6_init_65 : decode cX6_init 65 = .ok (.return_, 1) := by decide +kernel
set_option maxRecDepth 20000 in
theorem ggX6_firstFault_X5_at : GoodIn wsX6_firstFault wsX5_at := goodIn_r _ [4, 5, 6, 7, 8, 2, 9, 10, 11, 12, 13, 18, 19, 20] (by decide +kernel) (by decide +kernel)
set_option maxRecDepth 20000 in
theorem gX6_firstFault_X5_at_n35 : GoodIn wsX6_firstFault (wsX5_at) := ggX6_firstFault_X5_at
set_option maxRecDepth 20000 in
theorem ggX6_firstFault_X6_goesOn : GoodIn wsX6_firstFault wsX6_goesOn := goodIn_r _ [17] (by decide +kernel) (by decide +kernel)
set_option maxRecDepth 20000 in
theorem gX6_firstFault_X6_goesOn : GoodIn wsX6_firstFault (va_wsS RX6 41 yX6_goesOn wsX6_goesOn) := goodIn_app (goodIn_of _ (by decide +kernel)) ggX6_firstFault_X6_goesOn
theorem dX6_firstFault_0 : decode cX6_firstFault 0 = .ok (.iconst 0, 1) := by decide +kernel
theorem dX6_firstFault_1 : decode cX6_firstFault 1 = .ok (.istore_n 3, 1) := by decide +kernel
theorem dX6_firstFault_2 : decode cX6_firstFault 2 = .ok (.iload_n 3, 1) := by decide +kernel
theorem dX6_firstFault_3 : decode cX6_firstFault 3 = .ok (.iload_n 2, 1) := by decide +kernel
theorem dX6_firstFault_4 : decode cX6_firstFault 4 = .ok (.if_icmp .ge 25, 3) := by decide +kernel
theorem dX6_firstFault_7 : decode cX6_firstFault 7 = .ok (.iload_n 3, 1) := by decide +kernel
theorem dX6_firstFault_8 : decode cX6_firstFault 8 = .ok (.aload_n 0, 1) := by decide +kernel
theorem dX6_firstFault_9 : decode cX6_firstFault 9 = .ok (.iload_n 1, 1) := by decide +kernel
theorem dX6_firstFault_10 : decode cX6_firstFault 10 = .ok (.iload_n 3, 1) := by decide +kernel
theorem dX6_firstFault_11 : decode cX6_firstFault 11 = .ok (.iadd, 1) := by decide +kernel
theorem dX6_firstFault_12 : decode cX6_firstFault 12 = .ok (.invokevirtual 35, 3) := by decide +kernel
theorem dX6_firstFault_15 : decode cX6_firstFault 15 = .ok (.invokestatic 41, 3) := by decide +kernel
theorem dX6_firstFault_18 : decode cX6_firstFault 18 = .ok (.ifCond .ne 5, 3) := by decide +kernel
theorem dX6_firstFault_21 : decode cX6_firstFault 21 = .ok (.iload_n 3, 1) := by decide +kernel
theorem dX6_firstFault_22 : decode cX6_firstFault 22 = .ok (.ireturn, 1) := by decide +kernel
theorem dX6_firstFault_23 : decode cX6_firstFault 23 = .ok (.iinc 3 1, 3) := by decide +kernel
theorem dX6_firstFault_26 : decode cX6_firstFault 26 = .ok (.goto (-24), 3) := by decide +kernel
theorem dX6_firstFault_29 : decode cX6_firstFault 29 = .ok (.iload_n 2, 1) := by decide +kernel
theorem dX6_firstFault_30 : decode cX6_firstFault 30 = .ok (.iconst 4, 1) := by decide +kernel
theorem dX6_firstFault_31 : decode cX6_firstFault 31 = .ok (.irem, 1) := by decide +kernel
theorem dX6_firstFault_32 : decode cX6_firstFault 32 = .ok (.iconst 1, 1) := by decide +kernel
theorem dX6_firstFault_33 : decode cX6_firstFault 33 = .ok (.if_icmp .ne 13, 3) := by decide +kernel
theorem dX6_firstFault_36 : decode cX6_firstFault 36 = .ok (.iload_n 2, 1) := by decide +kernel
theorem dX6_firstFault_37 : decode cX6_firstFault 37 = .ok (.bipush 8, 2) := by decide +kernel
theorem dX6_firstFault_39 : decode cX6_firstFault 39 = .ok (.if_icmp .le 7, 3) := by decide +kernel
theorem dX6_firstFault_42 : decode cX6_firstFault 42 = .ok (.iconst 1, 1) := by decide +kernel
theorem dX6_firstFault_43 : decode cX6_firstFault 43 = .ok (.goto 4, 3) := by decide +kernel
theorem dX6_firstFault_46 : decode cX6_firstFault 46 = .ok (.iconst 0, 1) := by decide +kernel
theorem dX6_firstFault_47 : decode cX6_firstFault 47 = .ok (.istore_n 3, 1) := by decide +kernel
theorem dX6_firstFault_48 : decode cX6_firstFault 48 = .ok (.iload_n 3, 1) := by decide +kernel
theorem dX6_firstFault_49 : decode cX6_firstFault 49 = .ok (.ifCond .eq 8, 3) := by decide +kernel
theorem dX6_firstFault_52 : decode cX6_firstFault 52 = .ok (.bipush (-9), 2) := by decide +kernel
theorem dX6_firstFault_54 : decode cX6_firstFault 54 = .ok (.goto 4, 3) := by decide +kernel
theorem dX6_firstFault_57 : decode cX6_firstFault 57 = .ok (.iload_n 2, 1) := by decide +kernel
theorem dX6_firstFault_58 : decode cX6_firstFault 58 = .ok (.ireturn, 1) := by decide +kernel
theorem dX6_goesOn_0 : decode cX6_goesOn 0 = .ok (.iload_n 0, 1) := by decide +kernel
theorem dX6_goesOn_1 : decode cX6_goesOn 1 = .ok (.ifCond .ne 15, 3) := by decide +kernel
theorem dX6_goesOn_4 : decode cX6_goesOn 4 = .ok (.iload_n 1, 1) := by decide +kernel
theorem dX6_goesOn_5 : decode cX6_goesOn 5 = .ok (.bipush 115, 2) := by decide +kernel
theorem dX6_goesOn_7 : decode cX6_goesOn 7 = .ok (.if_icmp .ne 7, 3) := by decide +kernel
theorem dX6_goesOn_10 : decode cX6_goesOn 10 = .ok (.iconst 1, 1) := by decide +kernel
theorem dX6_goesOn_11 : decode cX6_goesOn 11 = .ok (.goto 4, 3) := by decide +kernel
theorem dX6_goesOn_14 : decode cX6_goesOn 14 = .ok (.iconst 0, 1) := by decide +kernel
theorem dX6_goesOn_15 : decode cX6_goesOn 15 = .ok (.ireturn, 1) := by decide +kernel
theorem dX6_goesOn_16 : decode cX6_goesOn 16 = .ok (.iload_n 0, 1) := by decide +kernel
theorem dX6_goesOn_17 : decode cX6_goesOn 17 = .ok (.bipush 24, 2) := by decide +kernel
theorem dX6_goesOn_19 : decode cX6_goesOn 19 = .ok (.if_icmp .le 5, 3) := by decide +kernel
theorem dX6_goesOn_22 : decode cX6_goesOn 22 = .ok (.iconst 0, 1) := by decide +kernel
theorem dX6_goesOn_23 : decode cX6_goesOn 23 = .ok (.ireturn, 1) := by decide +kernel
theorem dX6_goesOn_24 : decode cX6_goesOn 24 = .ok (.iload_n 0, 1) := by decide +kernel
theorem dX6_goesOn_25 : decode cX6_goesOn 25 = .ok (.iconst 4, 1) := by decide +kernel
theorem dX6_goesOn_26 : decode cX6_goesOn 26 = .ok (.irem, 1) := by decide +kernel
theorem dX6_goesOn_27 : decode cX6_goesOn 27 = .ok (.tableswitch 79 1 3 #[25, 37, 61], 25) := by decide +kernel
theorem dX6_goesOn_52 : decode cX6_goesOn 52 = .ok (.iload_n 1, 1) := by decide +kernel
theorem dX6_goesOn_53 : decode cX6_goesOn 53 = .ok (.bipush 59, 2) := by decide +kernel
theorem dX6_goesOn_55 : decode cX6_goesOn 55 = .ok (.if_icmp .ne 7, 3) := by decide +kernel
theorem dX6_goesOn_58 : decode cX6_goesOn 58 = .ok (.iconst 1, 1) := by decide +kernel
theorem dX6_goesOn_59 : decode cX6_goesOn 59 = .ok (.goto 4, 3) := by decide +kernel
theorem dX6_goesOn_62 : decode cX6_goesOn 62 = .ok (.iconst 0, 1) := by decide +kernel
theorem dX6_goesOn_63 : decode cX6_goesOn 63 = .ok (.ireturn, 1) := by decide +kernel
theorem dX6_goesOn_64 : decode cX6_goesOn 64 = .ok (.iload_n 1, 1) := by decide +kernel
theorem dX6_goesOn_65 : decode cX6_goesOn 65 = .ok (.bipush 104, 2) := by decide +kernel
theorem dX6_goesOn_67 : decode cX6_goesOn 67 = .ok (.if_icmp .eq 15, 3) := by decide +kernel
theorem dX6_goesOn_70 : decode cX6_goesOn 70 = .ok (.iload_n 1, 1) := by decide +kernel
theorem dX6_goesOn_71 : decode cX6_goesOn 71 = .ok (.bipush 98, 2) := by decide +kernel
theorem dX6_goesOn_73 : decode cX6_goesOn 73 = .ok (.if_icmp .eq 9, 3) := by decide +kernel
theorem dX6_goesOn_76 : decode cX6_goesOn 76 = .ok (.iload_n 1, 1) := by decide +kernel
theorem dX6_goesOn_77 : decode cX6_goesOn 77 = .ok (.bipush 103, 2) := by decide +kernel
theorem dX6_goesOn_79 : decode cX6_goesOn 79 = .ok (.if_icmp .ne 7, 3) := by decide +kernel
theorem dX6_goesOn_82 : decode cX6_goesOn 82 = .ok (.iconst 1, 1) := by decide +kernel
theorem dX6_goesOn_83 : decode cX6_goesOn 83 = .ok (.goto 4, 3) := by decide +kernel
theorem dX6_goesOn_86 : decode cX6_goesOn 86 = .ok (.iconst 0, 1) := by decide +kernel
theorem dX6_goesOn_87 : decode cX6_goesOn 87 = .ok (.ireturn, 1) := by decide +kernel
theorem dX6_goesOn_88 : decode cX6_goesOn 88 = .ok (.iload_n 1, 1) := by decide +kernel
theorem dX6_goesOn_89 : decode cX6_goesOn 89 = .ok (.bipush 49, 2) := by decide +kernel
theorem dX6_goesOn_91 : decode cX6_goesOn 91 = .ok (.if_icmp .lt 13, 3) := by decide +kernel
theorem dX6_goesOn_94 : decode cX6_goesOn 94 = .ok (.iload_n 1, 1) := by decide +kernel
theorem dX6_goesOn_95 : decode cX6_goesOn 95 = .ok (.bipush 53, 2) := by decide +kernel
theorem dX6_goesOn_97 : decode cX6_goesOn 97 = .ok (.if_icmp .gt 7, 3) := by decide +kernel
theorem dX6_goesOn_100 : decode cX6_goesOn 100 = .ok (.iconst 1, 1) := by decide +kernel
theorem dX6_goesOn_101 : decode cX6_goesOn 101 = .ok (.goto 4, 3) := by decide +kernel
theorem dX6_goesOn_104 : decode cX6_goesOn 104 = .ok (.iconst 0, 1) := by decide +kernel
theorem dX6_goesOn_105 : decode cX6_goesOn 105 = .ok (.ireturn, 1) := by decide +kernel
theorem dX6_goesOn_106 : decode cX6_goesOn 106 = .ok (.iload_n 1, 1) := by decide +kernel
theorem dX6_goesOn_107 : decode cX6_goesOn 107 = .ok (.bipush 48, 2) := by decide +kernel
theorem dX6_goesOn_109 : decode cX6_goesOn 109 = .ok (.if_icmp .lt 13, 3) := by decide +kernel
theorem dX6_goesOn_112 : decode cX6_goesOn 112 = .ok (.iload_n 1, 1) := by decide +kernel
theorem dX6_goesOn_113 : decode cX6_goesOn 113 = .ok (.bipush 50, 2) := by decide +kernel
theorem dX6_goesOn_115 : decode cX6_goesOn 115 = .ok (.if_icmp .gt 7, 3) := by decide +kernel
theorem dX6_goesOn_118 : decode cX6_goesOn 118 = .ok (.iconst 1, 1) := by decide +kernel
theorem dX6_goesOn_119 : decode cX6_goesOn 119 = .ok (.goto 4, 3) := by decide +kernel
theorem dX6_goesOn_122 : decode cX6_goesOn 122 = .ok (.iconst 0, 1) := by decide +kernel
theorem dX6_goesOn_123 : decode cX6_goesOn 123 = .ok (.ireturn, 1) := by decide +kernel
set_option maxRecDepth 20000 in
theorem ggX6_settle_X5_at : GoodIn wsX6_settle wsX5_at := goodIn_r _ [16, 17, 18, 19, 20, 14, 21, 22, 23, 24, 25, 64, 65, 66] (by decide +kernel) (by decide +kernel)
set_option maxRecDepth 20000 in
theorem gX6_settle_X5_at_n35 : GoodIn wsX6_settle (wsX5_at) := ggX6_settle_X5_at
set_option maxRecDepth 20000 in
theorem ggX6_settle_X6_born : GoodIn wsX6_settle wsX6_born := goodIn_r _ [29, 30, 31, 32, 33, 34, 35, 36, 37, 38, 39, 40, 41, 42, 43, 44, 45, 46, 47, 48, 49, 50, 67, 68, 69, 70, 71, 72, 73, 74, 75] (by decide +kernel) (by decide +kernel)
set_option maxRecDepth 20000 in
theorem gX6_settle_X6_born : GoodIn wsX6_settle (va_wsS RX6 55 yX6_born wsX6_born) := goodIn_app (goodIn_of _ (by decide +kernel)) ggX6_settle_X6_born
set_option maxRecDepth 20000 in
theorem ggX6_settle_X3_clear : GoodIn wsX6_settle wsX3_clear := goodIn_r _ [54, 55, 76, 77, 78] (by decide +kernel) (by decide +kernel)
set_option maxRecDepth 20000 in
theorem gX6_settle_X3_clear_n59 : GoodIn wsX6_settle (wsX3_clear) := ggX6_settle_X3_clear
theorem dX6_settle_0 : decode cX6_settle 0 = .ok (.aload_n 0, 1) := by decide +kernel
theorem dX6_settle_1 : decode cX6_settle 1 = .ok (.iload_n 3, 1) := by decide +kernel
theorem dX6_settle_2 : decode cX6_settle 2 = .ok (.iconst 1, 1) := by decide +kernel
theorem dX6_settle_3 : decode cX6_settle 3 = .ok (.isub, 1) := by decide +kernel
theorem dX6_settle_4 : decode cX6_settle 4 = .ok (.iconst 4, 1) := by decide +kernel
theorem dX6_settle_5 : decode cX6_settle 5 = .ok (.idiv, 1) := by decide +kernel
theorem dX6_settle_6 : decode cX6_settle 6 = .ok (.bipush 6, 2) := by decide +kernel
theorem dX6_settle_8 : decode cX6_settle 8 = .ok (.invokestatic 45, 3) := by decide +kernel
theorem dX6_settle_11 : decode cX6_settle 11 = .ok (.putfield 51, 3) := by decide +kernel
theorem dX6_settle_14 : decode cX6_settle 14 = .ok (.iconst 0, 1) := by decide +kernel
theorem dX6_settle_15 : decode cX6_settle 15 = .ok (.istore 4, 2) := by decide +kernel
theorem dX6_settle_17 : decode cX6_settle 17 = .ok (.iload 4, 2) := by decide +kernel
theorem dX6_settle_19 : decode cX6_settle 19 = .ok (.aload_n 0, 1) := by decide +kernel
theorem dX6_settle_20 : decode cX6_settle 20 = .ok (.getfield 51, 3) := by decide +kernel
theorem dX6_settle_23 : decode cX6_settle 23 = .ok (.if_icmp .ge 59, 3) := by decide +kernel
theorem dX6_settle_26 : decode cX6_settle 26 = .ok (.iload_n 2, 1) := by decide +kernel
theorem dX6_settle_27 : decode cX6_settle 27 = .ok (.iload 4, 2) := by decide +kernel
theorem dX6_settle_29 : decode cX6_settle 29 = .ok (.iconst 4, 1) := by decide +kernel
theorem dX6_settle_30 : decode cX6_settle 30 = .ok (.imul, 1) := by decide +kernel
theorem dX6_settle_31 : decode cX6_settle 31 = .ok (.iadd, 1) := by decide +kernel
theorem dX6_settle_32 : decode cX6_settle 32 = .ok (.iconst 2, 1) := by decide +kernel
theorem dX6_settle_33 : decode cX6_settle 33 = .ok (.iadd, 1) := by decide +kernel
theorem dX6_settle_34 : decode cX6_settle 34 = .ok (.istore 5, 2) := by decide +kernel
theorem dX6_settle_36 : decode cX6_settle 36 = .ok (.aload_n 0, 1) := by decide +kernel
theorem dX6_settle_37 : decode cX6_settle 37 = .ok (.getfield 11, 3) := by decide +kernel
theorem dX6_settle_40 : decode cX6_settle 40 = .ok (.iload 4, 2) := by decide +kernel
theorem dX6_settle_42 : decode cX6_settle 42 = .ok (.iload 4, 2) := by decide +kernel
theorem dX6_settle_44 : decode cX6_settle 44 = .ok (.aload_n 1, 1) := by decide +kernel
theorem dX6_settle_45 : decode cX6_settle 45 = .ok (.iload 5, 2) := by decide +kernel
theorem dX6_settle_47 : decode cX6_settle 47 = .ok (.invokevirtual 35, 3) := by decide +kernel
theorem dX6_settle_50 : decode cX6_settle 50 = .ok (.aload_n 1, 1) := by decide +kernel
theorem dX6_settle_51 : decode cX6_settle 51 = .ok (.iload 5, 2) := by decide +kernel
theorem dX6_settle_53 : decode cX6_settle 53 = .ok (.iconst 1, 1) := by decide +kernel
theorem dX6_settle_54 : decode cX6_settle 54 = .ok (.iadd, 1) := by decide +kernel
theorem dX6_settle_55 : decode cX6_settle 55 = .ok (.invokevirtual 35, 3) := by decide +kernel
theorem dX6_settle_58 : decode cX6_settle 58 = .ok (.bipush 48, 2) := by decide +kernel
theorem dX6_settle_60 : decode cX6_settle 60 = .ok (.isub, 1) := by decide +kernel
theorem dX6_settle_61 : decode cX6_settle 61 = .ok (.aload_n 1, 1) := by decide +kernel
theorem dX6_settle_62 : decode cX6_settle 62 = .ok (.iload 5, 2) := by decide +kernel
theorem dX6_settle_64 : decode cX6_settle 64 = .ok (.iconst 2, 1) := by decide +kernel
theorem dX6_settle_65 : decode cX6_settle 65 = .ok (.iadd, 1) := by decide +kernel
theorem dX6_settle_66 : decode cX6_settle 66 = .ok (.invokevirtual 35, 3) := by decide +kernel
theorem dX6_settle_69 : decode cX6_settle 69 = .ok (.bipush 48, 2) := by decide +kernel
theorem dX6_settle_71 : decode cX6_settle 71 = .ok (.isub, 1) := by decide +kernel
theorem dX6_settle_72 : decode cX6_settle 72 = .ok (.invokestatic 55, 3) := by decide +kernel
theorem dX6_settle_75 : decode cX6_settle 75 = .ok (.aastore, 1) := by decide +kernel
theorem dX6_settle_76 : decode cX6_settle 76 = .ok (.iinc 4 1, 3) := by decide +kernel
theorem dX6_settle_79 : decode cX6_settle 79 = .ok (.goto (-62), 3) := by decide +kernel
theorem dX6_settle_82 : decode cX6_settle 82 = .ok (.aload_n 0, 1) := by decide +kernel
theorem dX6_settle_83 : decode cX6_settle 83 = .ok (.getfield 22, 3) := by decide +kernel
theorem dX6_settle_86 : decode cX6_settle 86 = .ok (.invokevirtual 59, 3) := by decide +kernel
theorem dX6_settle_89 : decode cX6_settle 89 = .ok (.aload_n 0, 1) := by decide +kernel
theorem dX6_settle_90 : decode cX6_settle 90 = .ok (.getfield 26, 3) := by decide +kernel
theorem dX6_settle_93 : decode cX6_settle 93 = .ok (.invokevirtual 59, 3) := by decide +kernel
theorem dX6_settle_96 : decode cX6_settle 96 = .ok (.aload_n 0, 1) := by decide +kernel
theorem dX6_settle_97 : decode cX6_settle 97 = .ok (.getfield 29, 3) := by decide +kernel
theorem dX6_settle_100 : decode cX6_settle 100 = .ok (.invokevirtual 59, 3) := by decide +kernel
theorem dX6_settle_103 : decode cX6_settle 103 = .ok (.aload_n 0, 1) := by decide +kernel
theorem dX6_settle_104 : decode cX6_settle 104 = .ok (.getfield 32, 3) := by decide +kernel
theorem dX6_settle_107 : decode cX6_settle 107 = .ok (.invokevirtual 59, 3) := by decide +kernel
theorem dX6_settle_110 : decode cX6_settle 110 = .ok (.aload_n 0, 1) := by decide +kernel
theorem dX6_settle_111 : decode cX6_settle 111 = .ok (.iconst 0, 1) := by decide +kernel
theorem dX6_settle_112 : decode cX6_settle 112 = .ok (.putfield 62, 3) := by decide +kernel
theorem dX6_settle_115 : decode cX6_settle 115 = .ok (.aload_n 0, 1) := by decide +kernel
theorem dX6_settle_116 : decode cX6_settle 116 = .ok (.iconst 0, 1) := by decide +kernel
theorem dX6_settle_117 : decode cX6_settle 117 = .ok (.putfield 65, 3) := by decide +kernel
theorem dX6_settle_120 : decode cX6_settle 120 = .ok (.return_, 1) := by decide +kernel
set_option maxRecDepth 20000 in
theorem ggX6_born_X1_init : GoodIn wsX6_born wsX1_init := goodIn_r _ [11, 12, 6, 13, 14, 9, 15, 16, 17, 18, 19, 20, 21, 25, 26, 27, 22, 23, 24, 28, 29, 30] (by decide +kernel) (by decide +kernel)
set_option maxRecDepth 20000 in
theorem gX6_born_X1_init_n70 : GoodIn wsX6_born (wsX1_init) := ggX6_born_X1_init
set_option maxRecDepth 20000 in
theorem ggX6_born_X0_init : GoodIn wsX6_born wsX0_init := goodIn_r _ [13, 14, 9, 15, 16, 17, 18, 19, 20, 21, 25, 26, 27, 22, 23, 24, 28, 29, 30] (by decide +kernel) (by decide +kernel)
set_option maxRecDepth 20000 in
theorem gX6_born_X0_init_n75 : GoodIn wsX6_born (wsX0_init) := ggX6_born_X0_init
set_option maxRecDepth 20000 in
theorem ggX6_born_X2_init : GoodIn wsX6_born wsX2_init := goodIn_r _ [15, 16, 17, 18, 19, 20, 21, 25, 26, 27, 22, 23, 24, 28, 29, 30] (by decide +kernel) (by decide +kernel)
set_option maxRecDepth 20000 in
theorem gX6_born_X2_init_n76 : GoodIn wsX6_born (wsX2_init) := ggX6_born_X2_init
theorem dX6_born_0 : decode cX6_born 0 = .ok (.iload_n 1, 1) := by decide +kernel
theorem dX6_born_1 : decode cX6_born 1 = .ok (.lookupswitch 49 #[(98, 38), (103, 27)], 27) := by decide +kernel
theorem dX6_born_28 : decode cX6_born 28 = .ok (.new 68, 3) := by decide +kernel
theorem dX6_born_31 : decode cX6_born 31 = .ok (.dup, 1) := by decide +kernel
theorem dX6_born_32 : decode cX6_born 32 = .ok (.iload_n 0, 1) := by decide +kernel
theorem dX6_born_33 : decode cX6_born 33 = .ok (.iload_n 2, 1) := by decide +kernel
theorem dX6_born_34 : decode cX6_born 34 = .ok (.iload_n 3, 1) := by decide +kernel
theorem dX6_born_35 : decode cX6_born 35 = .ok (.invokespecial 70, 3) := by decide +kernel
theorem dX6_born_38 : decode cX6_born 38 = .ok (.areturn, 1) := by decide +kernel
theorem dX6_born_39 : decode cX6_born 39 = .ok (.new 73, 3) := by decide +kernel
theorem dX6_born_42 : decode cX6_born 42 = .ok (.dup, 1) := by decide +kernel
theorem dX6_born_43 : decode cX6_born 43 = .ok (.iload_n 0, 1) := by decide +kernel
theorem dX6_born_44 : decode cX6_born 44 = .ok (.iload_n 2, 1) := by decide +kernel
theorem dX6_born_45 : decode cX6_born 45 = .ok (.iload_n 3, 1) := by decide +kernel
theorem dX6_born_46 : decode cX6_born 46 = .ok (.invokespecial 75, 3) := by decide +kernel
theorem dX6_born_49 : decode cX6_born 49 = .ok (.areturn, 1) := by decide +kernel
theorem dX6_born_50 : decode cX6_born 50 = .ok (.new 9, 3) := by decide +kernel
theorem dX6_born_53 : decode cX6_born 53 = .ok (.dup, 1) := by decide +kernel
theorem dX6_born_54 : decode cX6_born 54 = .ok (.iload_n 0, 1) := by decide +kernel
theorem dX6_born_55 : decode cX6_born 55 = .ok (.iload_n 2, 1) := by decide +kernel
theorem dX6_born_56 : decode cX6_born 56 = .ok (.iload_n 3, 1) := by decide +kernel
theorem dX6_born_57 : decode cX6_born 57 = .ok (.invokespecial 76, 3) := by decide +kernel
theorem dX6_born_60 : decode cX6_born 60 = .ok (.areturn, 1) := by decide +kernel
theorem dX6_isEmpty_0 : decode cX6_isEmpty 0 = .ok (.aload_n 0, 1) := by decide +kernel
theorem dX6_isEmpty_1 : decode cX6_isEmpty 1 = .ok (.getfield 51, 3) := by decide +kernel
theorem dX6_isEmpty_4 : decode cX6_isEmpty 4 = .ok (.ifCond .ne 7, 3) := by decide +kernel
theorem dX6_isEmpty_7 : decode cX6_isEmpty 7 = .ok (.iconst 1, 1) := by decide +kernel
theorem dX6_isEmpty_8 : decode cX6_isEmpty 8 = .ok (.goto 4, 3) := by decide +kernel
theorem dX6_isEmpty_11 : decode cX6_isEmpty 11 = .ok (.iconst 0, 1) := by decide +kernel
theorem dX6_isEmpty_12 : decode cX6_isEmpty 12 = .ok (.ireturn, 1) := by decide +kernel
set_option maxRecDepth 20000 in
theorem ggX6_person_X8_isOneOf : GoodIn wsX6_person wsX8_isOneOf := goodIn_r _ [5] (by decide +kernel) (by decide +kernel)
set_option maxRecDepth 20000 in
theorem gX6_person_X8_isOneOf_n77 : GoodIn wsX6_person (wsX8_isOneOf) := ggX6_person_X8_isOneOf
theorem dX6_person_0 : decode cX6_person 0 = .ok (.iload_n 1, 1) := by decide +kernel
theorem dX6_person_1 : decode cX6_person 1 = .ok (.aload_n 0, 1) := by decide +kernel
theorem dX6_person_2 : decode cX6_person 2 = .ok (.getfield 51, 3) := by decide +kernel
theorem dX6_person_5 : decode cX6_person 5 = .ok (.invokestatic 77, 3) := by decide +kernel
theorem dX6_person_8 : decode cX6_person 8 = .ok (.ifCond .eq 12, 3) := by decide +kernel
theorem dX6_person_11 : decode cX6_person 11 = .ok (.aload_n 0, 1) := by decide +kernel
theorem dX6_person_12 : decode cX6_person 12 = .ok (.getfield 11, 3) := by decide +kernel
theorem dX6_person_15 : decode cX6_person 15 = .ok (.iload_n 1, 1) := by decide +kernel
theorem dX6_person_16 : decode cX6_person 16 = .ok (.aaload, 1) := by decide +kernel
theorem dX6_person_17 : decode cX6_person 17 = .ok (.goto 4, 3) := by decide +kernel
theorem dX6_person_20 : decode cX6_person 20 = .ok (.aconst_null, 1) := by decide +kernel
theorem dX6_person_21 : decode cX6_person 21 = .ok (.areturn, 1) := by decide +kernel
set_option maxRecDepth 20000 in
theorem ggX6_firstUnmet_X3_at : GoodIn wsX6_firstUnmet wsX3_at := goodIn_r _ [5, 6, 7, 8, 9, 3, 10, 11, 12, 13, 14, 25, 26, 27] (by decide +kernel) (by decide +kernel)
set_option maxRecDepth 20000 in
theorem gX6_firstUnmet_X3_at_n83 : GoodIn wsX6_firstUnmet (wsX3_at) := ggX6_firstUnmet_X3_at
set_option maxRecDepth 20000 in
theorem ggX6_firstUnmet_X8_isIn : GoodIn wsX6_firstUnmet wsX8_isIn := goodIn_r _ [16] (by decide +kernel) (by decide +kernel)
set_option maxRecDepth 20000 in
theorem gX6_firstUnmet_X8_isIn_n85 : GoodIn wsX6_firstUnmet (wsX8_isIn) := ggX6_firstUnmet_X8_isIn
theorem dX6_firstUnmet_0 : decode cX6_firstUnmet 0 = .ok (.iconst 0, 1) := by decide +kernel
theorem dX6_firstUnmet_1 : decode cX6_firstUnmet 1 = .ok (.istore_n 2, 1) := by decide +kernel
theorem dX6_firstUnmet_2 : decode cX6_firstUnmet 2 = .ok (.iload_n 2, 1) := by decide +kernel
theorem dX6_firstUnmet_3 : decode cX6_firstUnmet 3 = .ok (.aload_n 0, 1) := by decide +kernel
theorem dX6_firstUnmet_4 : decode cX6_firstUnmet 4 = .ok (.getfield 29, 3) := by decide +kernel
theorem dX6_firstUnmet_7 : decode cX6_firstUnmet 7 = .ok (.getfield 80, 3) := by decide +kernel
theorem dX6_firstUnmet_10 : decode cX6_firstUnmet 10 = .ok (.if_icmp .ge 43, 3) := by decide +kernel
theorem dX6_firstUnmet_13 : decode cX6_firstUnmet 13 = .ok (.aload_n 0, 1) := by decide +kernel
theorem dX6_firstUnmet_14 : decode cX6_firstUnmet 14 = .ok (.getfield 29, 3) := by decide +kernel
theorem dX6_firstUnmet_17 : decode cX6_firstUnmet 17 = .ok (.iload_n 2, 1) := by decide +kernel
theorem dX6_firstUnmet_18 : decode cX6_firstUnmet 18 = .ok (.iconst 0, 1) := by decide +kernel
theorem dX6_firstUnmet_19 : decode cX6_firstUnmet 19 = .ok (.invokevirtual 83, 3) := by decide +kernel
theorem dX6_firstUnmet_22 : decode cX6_firstUnmet 22 = .ok (.iload_n 1, 1) := by decide +kernel
theorem dX6_firstUnmet_23 : decode cX6_firstUnmet 23 = .ok (.invokestatic 85, 3) := by decide +kernel
theorem dX6_firstUnmet_26 : decode cX6_firstUnmet 26 = .ok (.ifCond .eq 21, 3) := by decide +kernel
theorem dX6_firstUnmet_29 : decode cX6_firstUnmet 29 = .ok (.aload_n 0, 1) := by decide +kernel
theorem dX6_firstUnmet_30 : decode cX6_firstUnmet 30 = .ok (.getfield 29, 3) := by decide +kernel
theorem dX6_firstUnmet_33 : decode cX6_firstUnmet 33 = .ok (.iload_n 2, 1) := by decide +kernel
theorem dX6_firstUnmet_34 : decode cX6_firstUnmet 34 = .ok (.iconst 1, 1) := by decide +kernel
theorem dX6_firstUnmet_35 : decode cX6_firstUnmet 35 = .ok (.invokevirtual 83, 3) := by decide +kernel
theorem dX6_firstUnmet_38 : decode cX6_firstUnmet 38 = .ok (.iload_n 1, 1) := by decide +kernel
theorem dX6_firstUnmet_39 : decode cX6_firstUnmet 39 = .ok (.invokestatic 85, 3) := by decide +kernel
theorem dX6_firstUnmet_42 : decode cX6_firstUnmet 42 = .ok (.ifCond .eq 5, 3) := by decide +kernel
theorem dX6_firstUnmet_45 : decode cX6_firstUnmet 45 = .ok (.iload_n 2, 1) := by decide +kernel
theorem dX6_firstUnmet_46 : decode cX6_firstUnmet 46 = .ok (.ireturn, 1) := by decide +kernel
theorem dX6_firstUnmet_47 : decode cX6_firstUnmet 47 = .ok (.iinc 2 1, 3) := by decide +kernel
theorem dX6_firstUnmet_50 : decode cX6_firstUnmet 50 = .ok (.goto (-48), 3) := by decide +kernel
theorem dX6_firstUnmet_53 : decode cX6_firstUnmet 53 = .ok (.bipush (-9), 2) := by decide +kernel
theorem dX6_firstUnmet_55 : decode cX6_firstUnmet 55 = .ok (.ireturn, 1) := by decide +kernel
theorem dX7_init_0 : decode cX7_init 0 = .ok (.aload_n 0, 1) := by decide +kernel
theorem dX7_init_1 : decode cX7_init 1 = .ok (.invokespecial 1, 3) := by decide +kernel
theorem dX7_init_4 : decode cX7_init 4 = .ok (.return_, 1) := by decide +kernel
theorem dX7_leave_0 : decode cX7_leave 0 = .ok (.aload_n 0, 1) := by decide +kernel
theorem dX7_leave_1 : decode cX7_leave 1 = .ok (.bipush 31, 2) := by decide +kernel
theorem dX7_leave_3 : decode cX7_leave 3 = .ok (.aload_n 0, 1) := by decide +kernel
theorem dX7_leave_4 : decode cX7_leave 4 = .ok (.getfield 7, 3) := by decide +kernel
theorem dX7_leave_7 : decode cX7_leave 7 = .ok (.imul, 1) := by decide +kernel
theorem dX7_leave_8 : decode cX7_leave 8 = .ok (.iload_n 1, 1) := by decide +kernel
theorem dX7_leave_9 : decode cX7_leave 9 = .ok (.iadd, 1) := by decide +kernel
theorem dX7_leave_10 : decode cX7_leave 10 = .ok (.putfield 7, 3) := by decide +kernel
theorem dX7_leave_13 : decode cX7_leave 13 = .ok (.return_, 1) := by decide +kernel
set_option maxRecDepth 20000 in
theorem ggX8_init_X7_init : GoodIn wsX8_init wsX7_init := goodIn_r _ [21, 22, 2, 3] (by decide +kernel) (by decide +kernel)
set_option maxRecDepth 20000 in
theorem gX8_init_X7_init_n19 : GoodIn wsX8_init (wsX7_init) := ggX8_init_X7_init
set_option maxRecDepth 20000 in
theorem ggX8_init_X6_init : GoodIn wsX8_init wsX6_init := goodIn_r _ [24, 25, 2, 3, 26, 27, 28, 29, 30, 31, 32, 33, 34, 35, 36, 37, 38, 39, 40, 62, 63, 64, 65, 66, 67, 68, 69, 83, 84, 85] (by decide +kernel) (by decide +kernel)
set_option maxRecDepth 20000 in
theorem gX8_init_X6_init_n26 : GoodIn wsX8_init (wsX6_init) := ggX8_init_X6_init
set_option maxRecDepth 20000 in
theorem ggX8_init_X4_init : GoodIn wsX8_init wsX4_init := goodIn_r _ [42, 43, 2, 3, 39, 44, 45, 46, 47, 48, 49, 50, 70, 71, 72, 73, 74, 75, 76, 77, 78, 79] (by decide +kernel) (by decide +kernel)
set_option maxRecDepth 20000 in
theorem gX8_init_X4_init_n33 : GoodIn wsX8_init (wsX4_init) := ggX8_init_X4_init
set_option maxRecDepth 20000 in
theorem ggX8_init_X5_init : GoodIn wsX8_init wsX5_init := goodIn_r _ [52, 53, 2, 3, 39, 54, 55, 80, 81, 82] (by decide +kernel) (by decide +kernel)
set_option maxRecDepth 20000 in
theorem gX8_init_X5_init_n40 : GoodIn wsX8_init (wsX5_init) := ggX8_init_X5_init
theorem dX8_init_0 : decode cX8_init 0 = .ok (.aload_n 0, 1) := by decide +kernel
theorem dX8_init_1 : decode cX8_init 1 = .ok (.invokespecial 3, 3) := by decide +kernel
theorem dX8_init_4 : decode cX8_init 4 = .ok (.aload_n 0, 1) := by decide +kernel
theorem dX8_init_5 : decode cX8_init 5 = .ok (.iconst 4, 1) := by decide +kernel
theorem dX8_init_6 : decode cX8_init 6 = .ok (.anewarray 11, 3) := by decide +kernel
theorem dX8_init_9 : decode cX8_init 9 = .ok (.putfield 13, 3) := by decide +kernel
theorem dX8_init_12 : decode cX8_init 12 = .ok (.aload_n 0, 1) := by decide +kernel
theorem dX8_init_13 : decode cX8_init 13 = .ok (.new 17, 3) := by decide +kernel
theorem dX8_init_16 : decode cX8_init 16 = .ok (.dup, 1) := by decide +kernel
theorem dX8_init_17 : decode cX8_init 17 = .ok (.invokespecial 19, 3) := by decide +kernel
theorem dX8_init_20 : decode cX8_init 20 = .ok (.putfield 20, 3) := by decide +kernel
theorem dX8_init_23 : decode cX8_init 23 = .ok (.new 24, 3) := by decide +kernel
theorem dX8_init_26 : decode cX8_init 26 = .ok (.dup, 1) := by decide +kernel
theorem dX8_init_27 : decode cX8_init 27 = .ok (.invokespecial 26, 3) := by decide +kernel
theorem dX8_init_30 : decode cX8_init 30 = .ok (.astore_n 1, 1) := by decide +kernel
theorem dX8_init_31 : decode cX8_init 31 = .ok (.aload_n 0, 1) := by decide +kernel
theorem dX8_init_32 : decode cX8_init 32 = .ok (.aload_n 1, 1) := by decide +kernel
theorem dX8_init_33 : decode cX8_init 33 = .ok (.putfield 27, 3) := by decide +kernel
theorem dX8_init_36 : decode cX8_init 36 = .ok (.aload_n 0, 1) := by decide +kernel
theorem dX8_init_37 : decode cX8_init 37 = .ok (.new 31, 3) := by decide +kernel
theorem dX8_init_40 : decode cX8_init 40 = .ok (.dup, 1) := by decide +kernel
theorem dX8_init_41 : decode cX8_init 41 = .ok (.aload_n 1, 1) := by decide +kernel
theorem dX8_init_42 : decode cX8_init 42 = .ok (.invokespecial 33, 3) := by decide +kernel
theorem dX8_init_45 : decode cX8_init 45 = .ok (.putfield 36, 3) := by decide +kernel
theorem dX8_init_48 : decode cX8_init 48 = .ok (.iconst 0, 1) := by decide +kernel
theorem dX8_init_49 : decode cX8_init 49 = .ok (.istore_n 2, 1) := by decide +kernel
theorem dX8_init_50 : decode cX8_init 50 = .ok (.iload_n 2, 1) := by decide +kernel
theorem dX8_init_51 : decode cX8_init 51 = .ok (.iconst 4, 1) := by decide +kernel
theorem dX8_init_52 : decode cX8_init 52 = .ok (.if_icmp .ge 22, 3) := by decide +kernel
theorem dX8_init_55 : decode cX8_init 55 = .ok (.aload_n 0, 1) := by decide +kernel
theorem dX8_init_56 : decode cX8_init 56 = .ok (.getfield 13, 3) := by decide +kernel
theorem dX8_init_59 : decode cX8_init 59 = .ok (.iload_n 2, 1) := by decide +kernel
theorem dX8_init_60 : decode cX8_init 60 = .ok (.new 11, 3) := by decide +kernel
theorem dX8_init_63 : decode cX8_init 63 = .ok (.dup, 1) := by decide +kernel
theorem dX8_init_64 : decode cX8_init 64 = .ok (.invokespecial 40, 3) := by decide +kernel
theorem dX8_init_67 : decode cX8_init 67 = .ok (.aastore, 1) := by decide +kernel
theorem dX8_init_68 : decode cX8_init 68 = .ok (.iinc 2 1, 3) := by decide +kernel
theorem dX8_init_71 : decode cX8_init 71 = .ok (.goto (-21), 3) := by decide +kernel
theorem dX8_init_74 : decode cX8_init 74 = .ok (.return_, 1) := by decide +kernel
set_option maxRecDepth 20000 in
theorem ggX8_steppe_X8_sheetAt : GoodIn wsX8_steppe wsX8_sheetAt := goodIn_r _ [7, 8, 9, 10, 6, 11, 88, 89, 90, 91, 92] (by decide +kernel) (by decide +kernel)
set_option maxRecDepth 20000 in
theorem gX8_steppe_X8_sheetAt : GoodIn wsX8_steppe (wsV RX8 45 RX8 yX8_sheetAt wsX8_sheetAt) := goodIn_app (goodIn_of _ (by decide +kernel)) ggX8_steppe_X8_sheetAt
set_option maxRecDepth 20000 in
theorem ggX8_steppe_X8_isOneOf : GoodIn wsX8_steppe wsX8_isOneOf := goodIn_r _ [11] (by decide +kernel) (by decide +kernel)
set_option maxRecDepth 20000 in
theorem gX8_steppe_X8_isOneOf : GoodIn wsX8_steppe (va_wsS RX8 49 yX8_isOneOf wsX8_isOneOf) := goodIn_app (goodIn_of _ (by decide +kernel)) ggX8_steppe_X8_isOneOf
set_option maxRecDepth 20000 in
theorem ggX8_steppe_X5_faultOfTaking : GoodIn wsX8_steppe wsX5_faultOfTaking := goodIn_r _ [15, 16, 17, 18, 19, 13, 20, 21, 22, 23, 24, 25, 101, 102, 103] (by decide +kernel) (by decide +kernel)
set_option maxRecDepth 20000 in
theorem gX8_steppe_X5_faultOfTaking_n53 : GoodIn wsX8_steppe (wsX5_faultOfTaking) := ggX8_steppe_X5_faultOfTaking
set_option maxRecDepth 20000 in
theorem ggX8_steppe_X8_faulted : GoodIn wsX8_steppe wsX8_faulted := goodIn_r _ [29, 1, 88, 89, 90, 91, 92] (by decide +kernel) (by decide +kernel)
set_option maxRecDepth 20000 in
theorem gX8_steppe_X8_faulted : GoodIn wsX8_steppe (wsV RX8 57 RX8 yX8_faulted wsX8_faulted) := goodIn_app (goodIn_of _ (by decide +kernel)) ggX8_steppe_X8_faulted
set_option maxRecDepth 20000 in
theorem ggX8_steppe_X6_firstFault : GoodIn wsX8_steppe wsX6_firstFault := goodIn_r _ [32, 33, 13, 34, 35, 36, 37, 38, 39, 40, 25, 10, 6, 11, 41, 42, 31, 43, 101, 102, 103] (by decide +kernel) (by decide +kernel)
set_option maxRecDepth 20000 in
theorem gX8_steppe_X6_firstFault_n61 : GoodIn wsX8_steppe (wsX6_firstFault) := ggX8_steppe_X6_firstFault
set_option maxRecDepth 20000 in
theorem ggX8_steppe_X6_settle : GoodIn wsX8_steppe wsX6_settle := goodIn_r _ [46, 47, 48, 49, 50, 51, 52, 53, 54, 55, 56, 57, 58, 33, 13, 34, 35, 36, 37, 38, 39, 40, 25, 10, 6, 11, 59, 60, 31, 61, 62, 63, 64, 65, 66, 67, 68, 69, 70, 71, 72, 73, 74, 75, 76, 77, 78, 79, 80, 81, 82, 83, 84, 85, 86, 87, 93, 94, 95, 96, 97, 98, 99, 100, 101, 102, 103, 104, 105, 106, 107, 108, 109, 110, 111, 112, 113, 114, 115] (by decide +kernel) (by decide +kernel)
set_option maxRecDepth 20000 in
theorem gX8_steppe_X6_settle_n65 : GoodIn wsX8_steppe (wsX6_settle) := ggX8_steppe_X6_settle
theorem dX8_steppe_0 : decode cX8_steppe 0 = .ok (.aload_n 0, 1) := by decide +kernel
theorem dX8_steppe_1 : decode cX8_steppe 1 = .ok (.iconst 0, 1) := by decide +kernel
theorem dX8_steppe_2 : decode cX8_steppe 2 = .ok (.putfield 41, 3) := by decide +kernel
theorem dX8_steppe_5 : decode cX8_steppe 5 = .ok (.aload_n 0, 1) := by decide +kernel
theorem dX8_steppe_6 : decode cX8_steppe 6 = .ok (.iload_n 1, 1) := by decide +kernel
theorem dX8_steppe_7 : decode cX8_steppe 7 = .ok (.invokevirtual 45, 3) := by decide +kernel
theorem dX8_steppe_10 : decode cX8_steppe 10 = .ok (.astore 5, 2) := by decide +kernel
theorem dX8_steppe_12 : decode cX8_steppe 12 = .ok (.aload 5, 2) := by decide +kernel
theorem dX8_steppe_14 : decode cX8_steppe 14 = .ok (.ifnonnull 5, 3) := by decide +kernel
theorem dX8_steppe_17 : decode cX8_steppe 17 = .ok (.iconst (-1), 1) := by decide +kernel
theorem dX8_steppe_18 : decode cX8_steppe 18 = .ok (.ireturn, 1) := by decide +kernel
theorem dX8_steppe_19 : decode cX8_steppe 19 = .ok (.iload_n 2, 1) := by decide +kernel
theorem dX8_steppe_20 : decode cX8_steppe 20 = .ok (.iconst 3, 1) := by decide +kernel
theorem dX8_steppe_21 : decode cX8_steppe 21 = .ok (.invokestatic 49, 3) := by decide +kernel
theorem dX8_steppe_24 : decode cX8_steppe 24 = .ok (.ifCond .ne 6, 3) := by decide +kernel
theorem dX8_steppe_27 : decode cX8_steppe 27 = .ok (.bipush (-2), 2) := by decide +kernel
theorem dX8_steppe_29 : decode cX8_steppe 29 = .ok (.ireturn, 1) := by decide +kernel
theorem dX8_steppe_30 : decode cX8_steppe 30 = .ok (.aload 5, 2) := by decide +kernel
theorem dX8_steppe_32 : decode cX8_steppe 32 = .ok (.iload_n 2, 1) := by decide +kernel
theorem dX8_steppe_33 : decode cX8_steppe 33 = .ok (.iload_n 3, 1) := by decide +kernel
theorem dX8_steppe_34 : decode cX8_steppe 34 = .ok (.iload 4, 2) := by decide +kernel
theorem dX8_steppe_36 : decode cX8_steppe 36 = .ok (.invokevirtual 53, 3) := by decide +kernel
theorem dX8_steppe_39 : decode cX8_steppe 39 = .ok (.istore 6, 2) := by decide +kernel
theorem dX8_steppe_41 : decode cX8_steppe 41 = .ok (.iload 6, 2) := by decide +kernel
theorem dX8_steppe_43 : decode cX8_steppe 43 = .ok (.ifCond .eq 10, 3) := by decide +kernel
theorem dX8_steppe_46 : decode cX8_steppe 46 = .ok (.aload_n 0, 1) := by decide +kernel
theorem dX8_steppe_47 : decode cX8_steppe 47 = .ok (.iload 6, 2) := by decide +kernel
theorem dX8_steppe_49 : decode cX8_steppe 49 = .ok (.invokevirtual 57, 3) := by decide +kernel
theorem dX8_steppe_52 : decode cX8_steppe 52 = .ok (.ireturn, 1) := by decide +kernel
theorem dX8_steppe_53 : decode cX8_steppe 53 = .ok (.aload 5, 2) := by decide +kernel
theorem dX8_steppe_55 : decode cX8_steppe 55 = .ok (.iload_n 3, 1) := by decide +kernel
theorem dX8_steppe_56 : decode cX8_steppe 56 = .ok (.iload 4, 2) := by decide +kernel
theorem dX8_steppe_58 : decode cX8_steppe 58 = .ok (.invokestatic 61, 3) := by decide +kernel
theorem dX8_steppe_61 : decode cX8_steppe 61 = .ok (.istore 7, 2) := by decide +kernel
theorem dX8_steppe_63 : decode cX8_steppe 63 = .ok (.iload 7, 2) := by decide +kernel
theorem dX8_steppe_65 : decode cX8_steppe 65 = .ok (.bipush (-9), 2) := by decide +kernel
theorem dX8_steppe_67 : decode cX8_steppe 67 = .ok (.if_icmp .eq 9, 3) := by decide +kernel
theorem dX8_steppe_70 : decode cX8_steppe 70 = .ok (.bipush (-100), 2) := by decide +kernel
theorem dX8_steppe_72 : decode cX8_steppe 72 = .ok (.iload 7, 2) := by decide +kernel
theorem dX8_steppe_74 : decode cX8_steppe 74 = .ok (.isub, 1) := by decide +kernel
theorem dX8_steppe_75 : decode cX8_steppe 75 = .ok (.ireturn, 1) := by decide +kernel
theorem dX8_steppe_76 : decode cX8_steppe 76 = .ok (.aload_n 0, 1) := by decide +kernel
theorem dX8_steppe_77 : decode cX8_steppe 77 = .ok (.getfield 27, 3) := by decide +kernel
theorem dX8_steppe_80 : decode cX8_steppe 80 = .ok (.aload 5, 2) := by decide +kernel
theorem dX8_steppe_82 : decode cX8_steppe 82 = .ok (.iload_n 3, 1) := by decide +kernel
theorem dX8_steppe_83 : decode cX8_steppe 83 = .ok (.iload 4, 2) := by decide +kernel
theorem dX8_steppe_85 : decode cX8_steppe 85 = .ok (.invokevirtual 65, 3) := by decide +kernel
theorem dX8_steppe_88 : decode cX8_steppe 88 = .ok (.aload_n 0, 1) := by decide +kernel
theorem dX8_steppe_89 : decode cX8_steppe 89 = .ok (.getfield 27, 3) := by decide +kernel
theorem dX8_steppe_92 : decode cX8_steppe 92 = .ok (.getfield 69, 3) := by decide +kernel
theorem dX8_steppe_95 : decode cX8_steppe 95 = .ok (.ireturn, 1) := by decide +kernel
set_option maxRecDepth 20000 in
theorem ggX8_ofPerson_X6_person : GoodIn wsX8_ofPerson wsX6_person := goodIn_r _ [5, 6, 7, 8, 9, 10, 63, 64, 65, 66, 67, 68, 69, 70] (by decide +kernel) (by decide +kernel)
set_option maxRecDepth 20000 in
theorem gX8_ofPerson_X6_person_n72 : GoodIn wsX8_ofPerson (wsX6_person) := ggX8_ofPerson_X6_person
set_option maxRecDepth 20000 in
theorem ggX8_ofPerson_X0_kind : GoodIn wsX8_ofPerson wsX0_kind := goodIn_r _ [17] (by decide +kernel) (by decide +kernel)
set_option maxRecDepth 20000 in
theorem gX8_ofPerson_X0_kind_u76X0 : GoodIn wsX8_ofPerson (va_wsO RX8 76 RX0 "TaleBans$Herder" ⟨"TaleBans$Herder", "kind", "()I"⟩ yX0_kind wsX0_kind) := goodIn_app (goodIn_of _ (by decide +kernel)) ggX8_ofPerson_X0_kind
set_option maxRecDepth 20000 in
theorem ggX8_ofPerson_X1_kind : GoodIn wsX8_ofPerson wsX1_kind := goodIn_r _ [22] (by decide +kernel) (by decide +kernel)
set_option maxRecDepth 20000 in
theorem gX8_ofPerson_X1_kind_u76X1 : GoodIn wsX8_ofPerson (va_wsO RX8 76 RX1 "TaleBans$Herder" ⟨"TaleBans$Herder", "kind", "()I"⟩ yX1_kind wsX1_kind) := goodIn_app (goodIn_of _ (by decide +kernel)) ggX8_ofPerson_X1_kind
set_option maxRecDepth 20000 in
theorem ggX8_ofPerson_X2_kind : GoodIn wsX8_ofPerson wsX2_kind := goodIn_r _ [18] (by decide +kernel) (by decide +kernel)
set_option maxRecDepth 20000 in
theorem gX8_ofPerson_X2_kind : GoodIn wsX8_ofPerson (wsV RX8 76 RX2 yX2_kind wsX2_kind) := goodIn_app (goodIn_of _ (by decide +kernel)) ggX8_ofPerson_X2_kind
set_option maxRecDepth 20000 in
theorem ggX8_ofPerson_X0_memory : GoodIn wsX8_ofPerson wsX0_memory := goodIn_r _ [32, 33, 28, 34, 35, 26, 36, 37, 54, 55, 56, 57, 58, 59, 60, 61, 62] (by decide +kernel) (by decide +kernel)
set_option maxRecDepth 20000 in
theorem gX8_ofPerson_X0_memory_u88X0 : GoodIn wsX8_ofPerson (va_wsO RX8 88 RX0 "TaleBans$Herder" ⟨"TaleBans$Herder", "memory", "()I"⟩ yX0_memory wsX0_memory) := goodIn_app (goodIn_of _ (by decide +kernel)) ggX8_ofPerson_X0_memory
set_option maxRecDepth 20000 in
theorem ggX8_ofPerson_X1_memory : GoodIn wsX8_ofPerson wsX1_memory := goodIn_r _ [40, 41, 42, 43, 31, 16, 32, 33, 28, 34, 35, 26, 36, 37, 54, 55, 56, 57, 58, 59, 60, 61, 62] (by decide +kernel) (by decide +kernel)
set_option maxRecDepth 20000 in
theorem gX8_ofPerson_X1_memory_u88X1 : GoodIn wsX8_ofPerson (va_wsO RX8 88 RX1 "TaleBans$Herder" ⟨"TaleBans$Herder", "memory", "()I"⟩ yX1_memory wsX1_memory) := goodIn_app (goodIn_of _ (by decide +kernel)) ggX8_ofPerson_X1_memory
set_option maxRecDepth 20000 in
theorem ggX8_ofPerson_X2_memory : GoodIn wsX8_ofPerson wsX2_memory := goodIn_r _ [36, 37, 54, 55, 56, 57, 58, 59, 60, 61, 62] (by decide +kernel) (by decide +kernel)
set_option maxRecDepth 20000 in
theorem gX8_ofPerson_X2_memory : GoodIn wsX8_ofPerson (wsV RX8 88 RX2 yX2_memory wsX2_memory) := goodIn_app (goodIn_of _ (by decide +kernel)) ggX8_ofPerson_X2_memory
set_option maxRecDepth 20000 in
theorem ggX8_ofPerson_X8_isIn : GoodIn wsX8_ofPerson wsX8_isIn := goodIn_r _ [48] (by decide +kernel) (by decide +kernel)
set_option maxRecDepth 20000 in
theorem gX8_ofPerson_X8_isIn : GoodIn wsX8_ofPerson (va_wsS RX8 94 yX8_isIn wsX8_isIn) := goodIn_app (goodIn_of _ (by decide +kernel)) ggX8_ofPerson_X8_isIn
theorem dX8_ofPerson_0 : decode cX8_ofPerson 0 = .ok (.aload_n 0, 1) := by decide +kernel
theorem dX8_ofPerson_1 : decode cX8_ofPerson 1 = .ok (.getfield 27, 3) := by decide +kernel
theorem dX8_ofPerson_4 : decode cX8_ofPerson 4 = .ok (.iload_n 1, 1) := by decide +kernel
theorem dX8_ofPerson_5 : decode cX8_ofPerson 5 = .ok (.invokevirtual 72, 3) := by decide +kernel
theorem dX8_ofPerson_8 : decode cX8_ofPerson 8 = .ok (.astore_n 3, 1) := by decide +kernel
theorem dX8_ofPerson_9 : decode cX8_ofPerson 9 = .ok (.aload_n 3, 1) := by decide +kernel
theorem dX8_ofPerson_10 : decode cX8_ofPerson 10 = .ok (.ifnonnull 5, 3) := by decide +kernel
theorem dX8_ofPerson_13 : decode cX8_ofPerson 13 = .ok (.iconst (-1), 1) := by decide +kernel
theorem dX8_ofPerson_14 : decode cX8_ofPerson 14 = .ok (.ireturn, 1) := by decide +kernel
theorem dX8_ofPerson_15 : decode cX8_ofPerson 15 = .ok (.iload_n 2, 1) := by decide +kernel
theorem dX8_ofPerson_16 : decode cX8_ofPerson 16 = .ok (.tableswitch 76 0 4 #[36, 41, 46, 51, 56], 36) := by decide +kernel
theorem dX8_ofPerson_52 : decode cX8_ofPerson 52 = .ok (.aload_n 3, 1) := by decide +kernel
theorem dX8_ofPerson_53 : decode cX8_ofPerson 53 = .ok (.invokevirtual 76, 3) := by decide +kernel
theorem dX8_ofPerson_56 : decode cX8_ofPerson 56 = .ok (.ireturn, 1) := by decide +kernel
theorem dX8_ofPerson_57 : decode cX8_ofPerson 57 = .ok (.aload_n 3, 1) := by decide +kernel
theorem dX8_ofPerson_58 : decode cX8_ofPerson 58 = .ok (.getfield 82, 3) := by decide +kernel
theorem dX8_ofPerson_61 : decode cX8_ofPerson 61 = .ok (.ireturn, 1) := by decide +kernel
theorem dX8_ofPerson_62 : decode cX8_ofPerson 62 = .ok (.aload_n 3, 1) := by decide +kernel
theorem dX8_ofPerson_63 : decode cX8_ofPerson 63 = .ok (.getfield 85, 3) := by decide +kernel
theorem dX8_ofPerson_66 : decode cX8_ofPerson 66 = .ok (.ireturn, 1) := by decide +kernel
theorem dX8_ofPerson_67 : decode cX8_ofPerson 67 = .ok (.aload_n 3, 1) := by decide +kernel
theorem dX8_ofPerson_68 : decode cX8_ofPerson 68 = .ok (.invokevirtual 88, 3) := by decide +kernel
theorem dX8_ofPerson_71 : decode cX8_ofPerson 71 = .ok (.ireturn, 1) := by decide +kernel
theorem dX8_ofPerson_72 : decode cX8_ofPerson 72 = .ok (.iload_n 1, 1) := by decide +kernel
theorem dX8_ofPerson_73 : decode cX8_ofPerson 73 = .ok (.aload_n 0, 1) := by decide +kernel
theorem dX8_ofPerson_74 : decode cX8_ofPerson 74 = .ok (.getfield 27, 3) := by decide +kernel
theorem dX8_ofPerson_77 : decode cX8_ofPerson 77 = .ok (.getfield 91, 3) := by decide +kernel
theorem dX8_ofPerson_80 : decode cX8_ofPerson 80 = .ok (.invokestatic 94, 3) := by decide +kernel
theorem dX8_ofPerson_83 : decode cX8_ofPerson 83 = .ok (.ifCond .eq 7, 3) := by decide +kernel
theorem dX8_ofPerson_86 : decode cX8_ofPerson 86 = .ok (.iconst 1, 1) := by decide +kernel
theorem dX8_ofPerson_87 : decode cX8_ofPerson 87 = .ok (.goto 4, 3) := by decide +kernel
theorem dX8_ofPerson_90 : decode cX8_ofPerson 90 = .ok (.iconst 0, 1) := by decide +kernel
theorem dX8_ofPerson_91 : decode cX8_ofPerson 91 = .ok (.ireturn, 1) := by decide +kernel
theorem dX8_ofPerson_92 : decode cX8_ofPerson 92 = .ok (.bipush (-2), 2) := by decide +kernel
theorem dX8_ofPerson_94 : decode cX8_ofPerson 94 = .ok (.ireturn, 1) := by decide +kernel
set_option maxRecDepth 20000 in
theorem ggX8_tale_X8_isOneOf : GoodIn wsX8_tale wsX8_isOneOf := goodIn_r _ [5] (by decide +kernel) (by decide +kernel)
set_option maxRecDepth 20000 in
theorem gX8_tale_X8_isOneOf : GoodIn wsX8_tale (va_wsS RX8 49 yX8_isOneOf wsX8_isOneOf) := goodIn_app (goodIn_of _ (by decide +kernel)) ggX8_tale_X8_isOneOf
set_option maxRecDepth 20000 in
theorem ggX8_tale_X6_person : GoodIn wsX8_tale wsX6_person := goodIn_r _ [9, 10, 11, 3, 4, 5, 39, 40, 41, 42, 43, 44, 45, 46] (by decide +kernel) (by decide +kernel)
set_option maxRecDepth 20000 in
theorem gX8_tale_X6_person_n72 : GoodIn wsX8_tale (wsX6_person) := ggX8_tale_X6_person
set_option maxRecDepth 20000 in
theorem ggX8_tale_X8_refusal : GoodIn wsX8_tale wsX8_refusal := goodIn_r _ [15, 1, 16, 7, 17, 18, 10, 34, 35, 36, 37, 38, 39, 40, 41, 42, 43, 44, 45, 46] (by decide +kernel) (by decide +kernel)
set_option maxRecDepth 20000 in
theorem gX8_tale_X8_refusal : GoodIn wsX8_tale (wsV RX8 97 RX8 yX8_refusal wsX8_refusal) := goodIn_app (goodIn_of _ (by decide +kernel)) ggX8_tale_X8_refusal
set_option maxRecDepth 20000 in
theorem ggX8_tale_X3_add : GoodIn wsX8_tale wsX3_add := goodIn_r _ [22, 23, 24, 25, 26, 27, 20, 28, 29, 30, 31, 32, 33, 3, 4, 5, 47, 48, 49] (by decide +kernel) (by decide +kernel)
set_option maxRecDepth 20000 in
theorem gX8_tale_X3_add_n105 : GoodIn wsX8_tale (wsX3_add) := ggX8_tale_X3_add
theorem dX8_tale_0 : decode cX8_tale 0 = .ok (.aload_n 0, 1) := by decide +kernel
theorem dX8_tale_1 : decode cX8_tale 1 = .ok (.iload_n 1, 1) := by decide +kernel
theorem dX8_tale_2 : decode cX8_tale 2 = .ok (.bipush 6, 2) := by decide +kernel
theorem dX8_tale_4 : decode cX8_tale 4 = .ok (.invokestatic 49, 3) := by decide +kernel
theorem dX8_tale_7 : decode cX8_tale 7 = .ok (.ifCond .eq 18, 3) := by decide +kernel
theorem dX8_tale_10 : decode cX8_tale 10 = .ok (.aload_n 0, 1) := by decide +kernel
theorem dX8_tale_11 : decode cX8_tale 11 = .ok (.getfield 27, 3) := by decide +kernel
theorem dX8_tale_14 : decode cX8_tale 14 = .ok (.iload_n 2, 1) := by decide +kernel
theorem dX8_tale_15 : decode cX8_tale 15 = .ok (.invokevirtual 72, 3) := by decide +kernel
theorem dX8_tale_18 : decode cX8_tale 18 = .ok (.ifnull 7, 3) := by decide +kernel
theorem dX8_tale_21 : decode cX8_tale 21 = .ok (.iconst 1, 1) := by decide +kernel
theorem dX8_tale_22 : decode cX8_tale 22 = .ok (.goto 4, 3) := by decide +kernel
theorem dX8_tale_25 : decode cX8_tale 25 = .ok (.iconst 0, 1) := by decide +kernel
theorem dX8_tale_26 : decode cX8_tale 26 = .ok (.iload_n 3, 1) := by decide +kernel
theorem dX8_tale_27 : decode cX8_tale 27 = .ok (.bipush 40, 2) := by decide +kernel
theorem dX8_tale_29 : decode cX8_tale 29 = .ok (.invokestatic 49, 3) := by decide +kernel
theorem dX8_tale_32 : decode cX8_tale 32 = .ok (.invokevirtual 97, 3) := by decide +kernel
theorem dX8_tale_35 : decode cX8_tale 35 = .ok (.istore 4, 2) := by decide +kernel
theorem dX8_tale_37 : decode cX8_tale 37 = .ok (.iload 4, 2) := by decide +kernel
theorem dX8_tale_39 : decode cX8_tale 39 = .ok (.ifCond .eq 6, 3) := by decide +kernel
theorem dX8_tale_42 : decode cX8_tale 42 = .ok (.iload 4, 2) := by decide +kernel
theorem dX8_tale_44 : decode cX8_tale 44 = .ok (.ireturn, 1) := by decide +kernel
theorem dX8_tale_45 : decode cX8_tale 45 = .ok (.aload_n 0, 1) := by decide +kernel
theorem dX8_tale_46 : decode cX8_tale 46 = .ok (.getfield 27, 3) := by decide +kernel
theorem dX8_tale_49 : decode cX8_tale 49 = .ok (.getfield 101, 3) := by decide +kernel
theorem dX8_tale_52 : decode cX8_tale 52 = .ok (.iload_n 2, 1) := by decide +kernel
theorem dX8_tale_53 : decode cX8_tale 53 = .ok (.iload_n 3, 1) := by decide +kernel
theorem dX8_tale_54 : decode cX8_tale 54 = .ok (.iload_n 1, 1) := by decide +kernel
theorem dX8_tale_55 : decode cX8_tale 55 = .ok (.iconst 0, 1) := by decide +kernel
theorem dX8_tale_56 : decode cX8_tale 56 = .ok (.invokevirtual 105, 3) := by decide +kernel
theorem dX8_tale_59 : decode cX8_tale 59 = .ok (.ireturn, 1) := by decide +kernel
set_option maxRecDepth 20000 in
theorem ggX8_undo_X3_takeBack : GoodIn wsX8_undo wsX3_takeBack := goodIn_r _ [5, 6, 39, 40, 41] (by decide +kernel) (by decide +kernel)
set_option maxRecDepth 20000 in
theorem gX8_undo_X3_takeBack_n111 : GoodIn wsX8_undo (wsX3_takeBack) := ggX8_undo_X3_takeBack
set_option maxRecDepth 20000 in
theorem ggX8_undo_X3_keepBelow : GoodIn wsX8_undo wsX3_keepBelow := goodIn_r _ [9, 6, 10, 11, 12, 13, 14, 15, 16, 17, 3, 18, 19, 20, 21, 22, 23, 24, 25, 39, 40, 41] (by decide +kernel) (by decide +kernel)
set_option maxRecDepth 20000 in
theorem gX8_undo_X3_keepBelow_n117 : GoodIn wsX8_undo (wsX3_keepBelow) := ggX8_undo_X3_keepBelow
theorem dX8_undo_0 : decode cX8_undo 0 = .ok (.aload_n 0, 1) := by decide +kernel
theorem dX8_undo_1 : decode cX8_undo 1 = .ok (.getfield 27, 3) := by decide +kernel
theorem dX8_undo_4 : decode cX8_undo 4 = .ok (.getfield 101, 3) := by decide +kernel
theorem dX8_undo_7 : decode cX8_undo 7 = .ok (.iload_n 1, 1) := by decide +kernel
theorem dX8_undo_8 : decode cX8_undo 8 = .ok (.invokevirtual 111, 3) := by decide +kernel
theorem dX8_undo_11 : decode cX8_undo 11 = .ok (.istore_n 2, 1) := by decide +kernel
theorem dX8_undo_12 : decode cX8_undo 12 = .ok (.iload_n 2, 1) := by decide +kernel
theorem dX8_undo_13 : decode cX8_undo 13 = .ok (.bipush (-2), 2) := by decide +kernel
theorem dX8_undo_15 : decode cX8_undo 15 = .ok (.if_icmp .eq 15, 3) := by decide +kernel
theorem dX8_undo_18 : decode cX8_undo 18 = .ok (.aload_n 0, 1) := by decide +kernel
theorem dX8_undo_19 : decode cX8_undo 19 = .ok (.getfield 27, 3) := by decide +kernel
theorem dX8_undo_22 : decode cX8_undo 22 = .ok (.getfield 114, 3) := by decide +kernel
theorem dX8_undo_25 : decode cX8_undo 25 = .ok (.iconst 2, 1) := by decide +kernel
theorem dX8_undo_26 : decode cX8_undo 26 = .ok (.iload_n 2, 1) := by decide +kernel
theorem dX8_undo_27 : decode cX8_undo 27 = .ok (.invokevirtual 117, 3) := by decide +kernel
theorem dX8_undo_30 : decode cX8_undo 30 = .ok (.iload_n 2, 1) := by decide +kernel
theorem dX8_undo_31 : decode cX8_undo 31 = .ok (.ireturn, 1) := by decide +kernel
set_option maxRecDepth 20000 in
theorem ggX8_move_X6_person : GoodIn wsX8_move wsX6_person := goodIn_r _ [5, 6, 7, 8, 9, 10, 39, 40, 41, 42, 43, 44, 45, 46] (by decide +kernel) (by decide +kernel)
set_option maxRecDepth 20000 in
theorem gX8_move_X6_person_n72 : GoodIn wsX8_move (wsX6_person) := ggX8_move_X6_person
set_option maxRecDepth 20000 in
theorem ggX8_move_X8_isOneOf : GoodIn wsX8_move wsX8_isOneOf := goodIn_r _ [10] (by decide +kernel) (by decide +kernel)
set_option maxRecDepth 20000 in
theorem gX8_move_X8_isOneOf : GoodIn wsX8_move (va_wsS RX8 49 yX8_isOneOf wsX8_isOneOf) := goodIn_app (goodIn_of _ (by decide +kernel)) ggX8_move_X8_isOneOf
set_option maxRecDepth 20000 in
theorem ggX8_move_X8_refusal : GoodIn wsX8_move wsX8_refusal := goodIn_r _ [15, 1, 16, 3, 17, 18, 6, 34, 35, 36, 37, 38, 39, 40, 41, 42, 43, 44, 45, 46] (by decide +kernel) (by decide +kernel)
set_option maxRecDepth 20000 in
theorem gX8_move_X8_refusal : GoodIn wsX8_move (wsV RX8 97 RX8 yX8_refusal wsX8_refusal) := goodIn_app (goodIn_of _ (by decide +kernel)) ggX8_move_X8_refusal
set_option maxRecDepth 20000 in
theorem ggX8_move_X3_add : GoodIn wsX8_move wsX3_add := goodIn_r _ [22, 23, 24, 25, 26, 27, 20, 28, 29, 30, 31, 32, 33, 8, 9, 10, 47, 48, 49] (by decide +kernel) (by decide +kernel)
set_option maxRecDepth 20000 in
theorem gX8_move_X3_add_n105 : GoodIn wsX8_move (wsX3_add) := ggX8_move_X3_add
theorem dX8_move_0 : decode cX8_move 0 = .ok (.aload_n 0, 1) := by decide +kernel
theorem dX8_move_1 : decode cX8_move 1 = .ok (.aload_n 0, 1) := by decide +kernel
theorem dX8_move_2 : decode cX8_move 2 = .ok (.getfield 27, 3) := by decide +kernel
theorem dX8_move_5 : decode cX8_move 5 = .ok (.iload_n 1, 1) := by decide +kernel
theorem dX8_move_6 : decode cX8_move 6 = .ok (.invokevirtual 72, 3) := by decide +kernel
theorem dX8_move_9 : decode cX8_move 9 = .ok (.ifnull 15, 3) := by decide +kernel
theorem dX8_move_12 : decode cX8_move 12 = .ok (.iload_n 2, 1) := by decide +kernel
theorem dX8_move_13 : decode cX8_move 13 = .ok (.iconst 3, 1) := by decide +kernel
theorem dX8_move_14 : decode cX8_move 14 = .ok (.invokestatic 49, 3) := by decide +kernel
theorem dX8_move_17 : decode cX8_move 17 = .ok (.ifCond .eq 7, 3) := by decide +kernel
theorem dX8_move_20 : decode cX8_move 20 = .ok (.iconst 1, 1) := by decide +kernel
theorem dX8_move_21 : decode cX8_move 21 = .ok (.goto 4, 3) := by decide +kernel
theorem dX8_move_24 : decode cX8_move 24 = .ok (.iconst 0, 1) := by decide +kernel
theorem dX8_move_25 : decode cX8_move 25 = .ok (.iload_n 3, 1) := by decide +kernel
theorem dX8_move_26 : decode cX8_move 26 = .ok (.bipush 40, 2) := by decide +kernel
theorem dX8_move_28 : decode cX8_move 28 = .ok (.invokestatic 49, 3) := by decide +kernel
theorem dX8_move_31 : decode cX8_move 31 = .ok (.invokevirtual 97, 3) := by decide +kernel
theorem dX8_move_34 : decode cX8_move 34 = .ok (.istore 4, 2) := by decide +kernel
theorem dX8_move_36 : decode cX8_move 36 = .ok (.iload 4, 2) := by decide +kernel
theorem dX8_move_38 : decode cX8_move 38 = .ok (.ifCond .eq 6, 3) := by decide +kernel
theorem dX8_move_41 : decode cX8_move 41 = .ok (.iload 4, 2) := by decide +kernel
theorem dX8_move_43 : decode cX8_move 43 = .ok (.ireturn, 1) := by decide +kernel
theorem dX8_move_44 : decode cX8_move 44 = .ok (.aload_n 0, 1) := by decide +kernel
theorem dX8_move_45 : decode cX8_move 45 = .ok (.getfield 27, 3) := by decide +kernel
theorem dX8_move_48 : decode cX8_move 48 = .ok (.getfield 121, 3) := by decide +kernel
theorem dX8_move_51 : decode cX8_move 51 = .ok (.iload_n 1, 1) := by decide +kernel
theorem dX8_move_52 : decode cX8_move 52 = .ok (.iload_n 3, 1) := by decide +kernel
theorem dX8_move_53 : decode cX8_move 53 = .ok (.iload_n 2, 1) := by decide +kernel
theorem dX8_move_54 : decode cX8_move 54 = .ok (.iconst 0, 1) := by decide +kernel
theorem dX8_move_55 : decode cX8_move 55 = .ok (.invokevirtual 105, 3) := by decide +kernel
theorem dX8_move_58 : decode cX8_move 58 = .ok (.ireturn, 1) := by decide +kernel
set_option maxRecDepth 20000 in
theorem ggX8_unmove_X3_takeBack : GoodIn wsX8_unmove wsX3_takeBack := goodIn_r _ [5, 6, 20, 21, 22] (by decide +kernel) (by decide +kernel)
set_option maxRecDepth 20000 in
theorem gX8_unmove_X3_takeBack_n111 : GoodIn wsX8_unmove (wsX3_takeBack) := ggX8_unmove_X3_takeBack
theorem dX8_unmove_0 : decode cX8_unmove 0 = .ok (.aload_n 0, 1) := by decide +kernel
theorem dX8_unmove_1 : decode cX8_unmove 1 = .ok (.getfield 27, 3) := by decide +kernel
theorem dX8_unmove_4 : decode cX8_unmove 4 = .ok (.getfield 121, 3) := by decide +kernel
theorem dX8_unmove_7 : decode cX8_unmove 7 = .ok (.iload_n 1, 1) := by decide +kernel
theorem dX8_unmove_8 : decode cX8_unmove 8 = .ok (.invokevirtual 111, 3) := by decide +kernel
theorem dX8_unmove_11 : decode cX8_unmove 11 = .ok (.ireturn, 1) := by decide +kernel
set_option maxRecDepth 20000 in
theorem ggX8_law_X8_isOneOf : GoodIn wsX8_law wsX8_isOneOf := goodIn_r _ [5] (by decide +kernel) (by decide +kernel)
set_option maxRecDepth 20000 in
theorem gX8_law_X8_isOneOf : GoodIn wsX8_law (va_wsS RX8 49 yX8_isOneOf wsX8_isOneOf) := goodIn_app (goodIn_of _ (by decide +kernel)) ggX8_law_X8_isOneOf
set_option maxRecDepth 20000 in
theorem ggX8_law_X6_isEmpty : GoodIn wsX8_law wsX6_isEmpty := goodIn_r _ [9, 10, 16, 17, 18, 19, 20, 21, 22, 23] (by decide +kernel) (by decide +kernel)
set_option maxRecDepth 20000 in
theorem gX8_law_X6_isEmpty_n124 : GoodIn wsX8_law (wsX6_isEmpty) := ggX8_law_X6_isEmpty
theorem dX8_law_0 : decode cX8_law 0 = .ok (.iload_n 1, 1) := by decide +kernel
theorem dX8_law_1 : decode cX8_law 1 = .ok (.iconst 3, 1) := by decide +kernel
theorem dX8_law_2 : decode cX8_law 2 = .ok (.invokestatic 49, 3) := by decide +kernel
theorem dX8_law_5 : decode cX8_law 5 = .ok (.ifCond .ne 6, 3) := by decide +kernel
theorem dX8_law_8 : decode cX8_law 8 = .ok (.bipush (-2), 2) := by decide +kernel
theorem dX8_law_10 : decode cX8_law 10 = .ok (.ireturn, 1) := by decide +kernel
theorem dX8_law_11 : decode cX8_law 11 = .ok (.aload_n 0, 1) := by decide +kernel
theorem dX8_law_12 : decode cX8_law 12 = .ok (.getfield 27, 3) := by decide +kernel
theorem dX8_law_15 : decode cX8_law 15 = .ok (.invokevirtual 124, 3) := by decide +kernel
theorem dX8_law_18 : decode cX8_law 18 = .ok (.ifCond .eq 6, 3) := by decide +kernel
theorem dX8_law_21 : decode cX8_law 21 = .ok (.bipush (-3), 2) := by decide +kernel
theorem dX8_law_23 : decode cX8_law 23 = .ok (.ireturn, 1) := by decide +kernel
theorem dX8_law_24 : decode cX8_law 24 = .ok (.aload_n 0, 1) := by decide +kernel
theorem dX8_law_25 : decode cX8_law 25 = .ok (.getfield 27, 3) := by decide +kernel
theorem dX8_law_28 : decode cX8_law 28 = .ok (.getfield 128, 3) := by decide +kernel
theorem dX8_law_31 : decode cX8_law 31 = .ok (.istore_n 2, 1) := by decide +kernel
theorem dX8_law_32 : decode cX8_law 32 = .ok (.aload_n 0, 1) := by decide +kernel
theorem dX8_law_33 : decode cX8_law 33 = .ok (.getfield 27, 3) := by decide +kernel
theorem dX8_law_36 : decode cX8_law 36 = .ok (.iload_n 1, 1) := by decide +kernel
theorem dX8_law_37 : decode cX8_law 37 = .ok (.putfield 128, 3) := by decide +kernel
theorem dX8_law_40 : decode cX8_law 40 = .ok (.iload_n 2, 1) := by decide +kernel
theorem dX8_law_41 : decode cX8_law 41 = .ok (.ireturn, 1) := by decide +kernel
set_option maxRecDepth 20000 in
theorem ggX8_pay_X6_person : GoodIn wsX8_pay wsX6_person := goodIn_r _ [5, 6, 7, 8, 9, 10, 19, 20, 21, 22, 23, 24, 25, 26] (by decide +kernel) (by decide +kernel)
set_option maxRecDepth 20000 in
theorem gX8_pay_X6_person_n72 : GoodIn wsX8_pay (wsX6_person) := ggX8_pay_X6_person
set_option maxRecDepth 20000 in
theorem ggX8_pay_X8_isIn : GoodIn wsX8_pay wsX8_isIn := goodIn_r _ [13] (by decide +kernel) (by decide +kernel)
set_option maxRecDepth 20000 in
theorem gX8_pay_X8_isIn : GoodIn wsX8_pay (va_wsS RX8 94 yX8_isIn wsX8_isIn) := goodIn_app (goodIn_of _ (by decide +kernel)) ggX8_pay_X8_isIn
theorem dX8_pay_0 : decode cX8_pay 0 = .ok (.aload_n 0, 1) := by decide +kernel
theorem dX8_pay_1 : decode cX8_pay 1 = .ok (.getfield 27, 3) := by decide +kernel
theorem dX8_pay_4 : decode cX8_pay 4 = .ok (.iload_n 1, 1) := by decide +kernel
theorem dX8_pay_5 : decode cX8_pay 5 = .ok (.invokevirtual 72, 3) := by decide +kernel
theorem dX8_pay_8 : decode cX8_pay 8 = .ok (.ifnonnull 5, 3) := by decide +kernel
theorem dX8_pay_11 : decode cX8_pay 11 = .ok (.iconst (-1), 1) := by decide +kernel
theorem dX8_pay_12 : decode cX8_pay 12 = .ok (.ireturn, 1) := by decide +kernel
theorem dX8_pay_13 : decode cX8_pay 13 = .ok (.iload_n 1, 1) := by decide +kernel
theorem dX8_pay_14 : decode cX8_pay 14 = .ok (.aload_n 0, 1) := by decide +kernel
theorem dX8_pay_15 : decode cX8_pay 15 = .ok (.getfield 27, 3) := by decide +kernel
theorem dX8_pay_18 : decode cX8_pay 18 = .ok (.getfield 91, 3) := by decide +kernel
theorem dX8_pay_21 : decode cX8_pay 21 = .ok (.invokestatic 94, 3) := by decide +kernel
theorem dX8_pay_24 : decode cX8_pay 24 = .ok (.iload_n 2, 1) := by decide +kernel
theorem dX8_pay_25 : decode cX8_pay 25 = .ok (.if_icmp .ne 5, 3) := by decide +kernel
theorem dX8_pay_28 : decode cX8_pay 28 = .ok (.iconst 0, 1) := by decide +kernel
theorem dX8_pay_29 : decode cX8_pay 29 = .ok (.ireturn, 1) := by decide +kernel
theorem dX8_pay_30 : decode cX8_pay 30 = .ok (.aload_n 0, 1) := by decide +kernel
theorem dX8_pay_31 : decode cX8_pay 31 = .ok (.getfield 27, 3) := by decide +kernel
theorem dX8_pay_34 : decode cX8_pay 34 = .ok (.dup, 1) := by decide +kernel
theorem dX8_pay_35 : decode cX8_pay 35 = .ok (.getfield 91, 3) := by decide +kernel
theorem dX8_pay_38 : decode cX8_pay 38 = .ok (.iconst 1, 1) := by decide +kernel
theorem dX8_pay_39 : decode cX8_pay 39 = .ok (.iload_n 1, 1) := by decide +kernel
theorem dX8_pay_40 : decode cX8_pay 40 = .ok (.ishl, 1) := by decide +kernel
theorem dX8_pay_41 : decode cX8_pay 41 = .ok (.ixor, 1) := by decide +kernel
theorem dX8_pay_42 : decode cX8_pay 42 = .ok (.putfield 91, 3) := by decide +kernel
theorem dX8_pay_45 : decode cX8_pay 45 = .ok (.iconst 1, 1) := by decide +kernel
theorem dX8_pay_46 : decode cX8_pay 46 = .ok (.ireturn, 1) := by decide +kernel
set_option maxRecDepth 20000 in
theorem ggX8_parody_X3_has : GoodIn wsX8_parody wsX3_has := goodIn_r _ [5, 6, 31, 32, 33] (by decide +kernel) (by decide +kernel)
set_option maxRecDepth 20000 in
theorem gX8_parody_X3_has_n131 : GoodIn wsX8_parody (wsX3_has) := ggX8_parody_X3_has
set_option maxRecDepth 20000 in
theorem ggX8_parody_X3_at : GoodIn wsX8_parody wsX3_at := goodIn_r _ [9, 10, 11, 2, 4, 3, 5, 6, 12, 13, 14, 31, 32, 33] (by decide +kernel) (by decide +kernel)
set_option maxRecDepth 20000 in
theorem gX8_parody_X3_at_n135 : GoodIn wsX8_parody (wsX3_at) := ggX8_parody_X3_at
set_option maxRecDepth 20000 in
theorem ggX8_parody_X3_set : GoodIn wsX8_parody wsX3_set := goodIn_r _ [17, 10, 11, 2, 4, 3, 5, 6, 12, 13, 14, 31, 32, 33] (by decide +kernel) (by decide +kernel)
set_option maxRecDepth 20000 in
theorem gX8_parody_X3_set_n139 : GoodIn wsX8_parody (wsX3_set) := ggX8_parody_X3_set
theorem dX8_parody_0 : decode cX8_parody 0 = .ok (.aload_n 0, 1) := by decide +kernel
theorem dX8_parody_1 : decode cX8_parody 1 = .ok (.getfield 27, 3) := by decide +kernel
theorem dX8_parody_4 : decode cX8_parody 4 = .ok (.getfield 101, 3) := by decide +kernel
theorem dX8_parody_7 : decode cX8_parody 7 = .ok (.iload_n 1, 1) := by decide +kernel
theorem dX8_parody_8 : decode cX8_parody 8 = .ok (.invokevirtual 131, 3) := by decide +kernel
theorem dX8_parody_11 : decode cX8_parody 11 = .ok (.ifCond .ne 5, 3) := by decide +kernel
theorem dX8_parody_14 : decode cX8_parody 14 = .ok (.iconst (-1), 1) := by decide +kernel
theorem dX8_parody_15 : decode cX8_parody 15 = .ok (.ireturn, 1) := by decide +kernel
theorem dX8_parody_16 : decode cX8_parody 16 = .ok (.iload_n 2, 1) := by decide +kernel
theorem dX8_parody_17 : decode cX8_parody 17 = .ok (.ifCond .eq 7, 3) := by decide +kernel
theorem dX8_parody_20 : decode cX8_parody 20 = .ok (.iconst 1, 1) := by decide +kernel
theorem dX8_parody_21 : decode cX8_parody 21 = .ok (.goto 4, 3) := by decide +kernel
theorem dX8_parody_24 : decode cX8_parody 24 = .ok (.iconst 0, 1) := by decide +kernel
theorem dX8_parody_25 : decode cX8_parody 25 = .ok (.istore_n 3, 1) := by decide +kernel
theorem dX8_parody_26 : decode cX8_parody 26 = .ok (.aload_n 0, 1) := by decide +kernel
theorem dX8_parody_27 : decode cX8_parody 27 = .ok (.getfield 27, 3) := by decide +kernel
theorem dX8_parody_30 : decode cX8_parody 30 = .ok (.getfield 101, 3) := by decide +kernel
theorem dX8_parody_33 : decode cX8_parody 33 = .ok (.iload_n 1, 1) := by decide +kernel
theorem dX8_parody_34 : decode cX8_parody 34 = .ok (.iconst 3, 1) := by decide +kernel
theorem dX8_parody_35 : decode cX8_parody 35 = .ok (.invokevirtual 135, 3) := by decide +kernel
theorem dX8_parody_38 : decode cX8_parody 38 = .ok (.iload_n 3, 1) := by decide +kernel
theorem dX8_parody_39 : decode cX8_parody 39 = .ok (.if_icmp .ne 5, 3) := by decide +kernel
theorem dX8_parody_42 : decode cX8_parody 42 = .ok (.iconst 0, 1) := by decide +kernel
theorem dX8_parody_43 : decode cX8_parody 43 = .ok (.ireturn, 1) := by decide +kernel
theorem dX8_parody_44 : decode cX8_parody 44 = .ok (.aload_n 0, 1) := by decide +kernel
theorem dX8_parody_45 : decode cX8_parody 45 = .ok (.getfield 27, 3) := by decide +kernel
theorem dX8_parody_48 : decode cX8_parody 48 = .ok (.getfield 101, 3) := by decide +kernel
theorem dX8_parody_51 : decode cX8_parody 51 = .ok (.iload_n 1, 1) := by decide +kernel
theorem dX8_parody_52 : decode cX8_parody 52 = .ok (.iconst 3, 1) := by decide +kernel
theorem dX8_parody_53 : decode cX8_parody 53 = .ok (.iload_n 3, 1) := by decide +kernel
theorem dX8_parody_54 : decode cX8_parody 54 = .ok (.invokevirtual 139, 3) := by decide +kernel
theorem dX8_parody_57 : decode cX8_parody 57 = .ok (.iconst 1, 1) := by decide +kernel
theorem dX8_parody_58 : decode cX8_parody 58 = .ok (.ireturn, 1) := by decide +kernel
set_option maxRecDepth 20000 in
theorem ggX8_remembers_X6_person : GoodIn wsX8_remembers wsX6_person := goodIn_r _ [6, 7, 8, 9, 10, 11, 119, 120, 121, 122, 123, 124, 125, 126] (by decide +kernel) (by decide +kernel)
set_option maxRecDepth 20000 in
theorem gX8_remembers_X6_person_n72 : GoodIn wsX8_remembers (wsX6_person) := ggX8_remembers_X6_person
set_option maxRecDepth 20000 in
theorem ggX8_remembers_X8_isOneOf : GoodIn wsX8_remembers wsX8_isOneOf := goodIn_r _ [11] (by decide +kernel) (by decide +kernel)
set_option maxRecDepth 20000 in
theorem gX8_remembers_X8_isOneOf : GoodIn wsX8_remembers (va_wsS RX8 49 yX8_isOneOf wsX8_isOneOf) := goodIn_app (goodIn_of _ (by decide +kernel)) ggX8_remembers_X8_isOneOf
set_option maxRecDepth 20000 in
theorem ggX8_remembers_X8_refusal : GoodIn wsX8_remembers wsX8_refusal := goodIn_r _ [16, 1, 17, 4, 18, 19, 7, 114, 115, 116, 117, 118, 119, 120, 121, 122, 123, 124, 125, 126] (by decide +kernel) (by decide +kernel)
set_option maxRecDepth 20000 in
theorem gX8_remembers_X8_refusal : GoodIn wsX8_remembers (wsV RX8 97 RX8 yX8_refusal wsX8_refusal) := goodIn_app (goodIn_of _ (by decide +kernel)) ggX8_remembers_X8_refusal
set_option maxRecDepth 20000 in
theorem ggX8_remembers_X8_reach : GoodIn wsX8_remembers wsX8_reach := goodIn_r _ [23, 2, 1, 24, 25, 26, 27, 28, 29, 30, 31, 32, 33, 34, 35, 3, 4, 5, 6, 7, 8, 9, 10, 11, 36, 37, 38, 39, 40, 41, 42, 43, 44, 45, 46, 47, 48, 49, 50, 51, 52, 53, 54, 55, 56, 57, 58, 59, 60, 61, 62, 63, 64, 65, 66, 67, 68, 69, 70, 71, 72, 73, 74, 75, 76, 77, 78, 79, 80, 81, 82, 83, 84, 85, 86, 87, 88, 89, 90, 91, 92, 93, 94, 95, 96, 97, 98, 99, 100, 101, 102, 103, 104, 105, 106, 107, 108, 109, 110, 114, 115, 116, 117, 118, 119, 120, 121, 122, 123, 124, 125, 126, 127, 128, 129, 130, 131, 132, 133, 134, 135, 136, 137, 138, 139, 140, 141, 142, 143, 144, 145, 146, 147, 148] (by decide +kernel) (by decide +kernel)
set_option maxRecDepth 20000 in
theorem gX8_remembers_X8_reach : GoodIn wsX8_remembers (wsV RX8 143 RX8 yX8_reach wsX8_reach) := goodIn_app (goodIn_of _ (by decide +kernel)) ggX8_remembers_X8_reach
set_option maxRecDepth 20000 in
theorem ggX8_remembers_X4_talesOf : GoodIn wsX8_remembers wsX4_talesOf := goodIn_r _ [113, 34, 9, 10, 11, 127, 128, 129, 130, 131, 132, 133, 134, 135, 136] (by decide +kernel) (by decide +kernel)
set_option maxRecDepth 20000 in
theorem gX8_remembers_X4_talesOf_n146 : GoodIn wsX8_remembers (wsX4_talesOf) := ggX8_remembers_X4_talesOf
theorem dX8_remembers_0 : decode cX8_remembers 0 = .ok (.aload_n 0, 1) := by decide +kernel
theorem dX8_remembers_1 : decode cX8_remembers 1 = .ok (.aload_n 0, 1) := by decide +kernel
theorem dX8_remembers_2 : decode cX8_remembers 2 = .ok (.getfield 27, 3) := by decide +kernel
theorem dX8_remembers_5 : decode cX8_remembers 5 = .ok (.iload_n 1, 1) := by decide +kernel
theorem dX8_remembers_6 : decode cX8_remembers 6 = .ok (.invokevirtual 72, 3) := by decide +kernel
theorem dX8_remembers_9 : decode cX8_remembers 9 = .ok (.ifnull 7, 3) := by decide +kernel
theorem dX8_remembers_12 : decode cX8_remembers 12 = .ok (.iconst 1, 1) := by decide +kernel
theorem dX8_remembers_13 : decode cX8_remembers 13 = .ok (.goto 4, 3) := by decide +kernel
theorem dX8_remembers_16 : decode cX8_remembers 16 = .ok (.iconst 0, 1) := by decide +kernel
theorem dX8_remembers_17 : decode cX8_remembers 17 = .ok (.iload_n 2, 1) := by decide +kernel
theorem dX8_remembers_18 : decode cX8_remembers 18 = .ok (.bipush 40, 2) := by decide +kernel
theorem dX8_remembers_20 : decode cX8_remembers 20 = .ok (.invokestatic 49, 3) := by decide +kernel
theorem dX8_remembers_23 : decode cX8_remembers 23 = .ok (.invokevirtual 97, 3) := by decide +kernel
theorem dX8_remembers_26 : decode cX8_remembers 26 = .ok (.istore_n 3, 1) := by decide +kernel
theorem dX8_remembers_27 : decode cX8_remembers 27 = .ok (.iload_n 3, 1) := by decide +kernel
theorem dX8_remembers_28 : decode cX8_remembers 28 = .ok (.ifCond .eq 5, 3) := by decide +kernel
theorem dX8_remembers_31 : decode cX8_remembers 31 = .ok (.iload_n 3, 1) := by decide +kernel
theorem dX8_remembers_32 : decode cX8_remembers 32 = .ok (.ireturn, 1) := by decide +kernel
theorem dX8_remembers_33 : decode cX8_remembers 33 = .ok (.aload_n 0, 1) := by decide +kernel
theorem dX8_remembers_34 : decode cX8_remembers 34 = .ok (.iload_n 2, 1) := by decide +kernel
theorem dX8_remembers_35 : decode cX8_remembers 35 = .ok (.aload_n 0, 1) := by decide +kernel
theorem dX8_remembers_36 : decode cX8_remembers 36 = .ok (.getfield 27, 3) := by decide +kernel
theorem dX8_remembers_39 : decode cX8_remembers 39 = .ok (.getfield 91, 3) := by decide +kernel
theorem dX8_remembers_42 : decode cX8_remembers 42 = .ok (.invokevirtual 143, 3) := by decide +kernel
theorem dX8_remembers_45 : decode cX8_remembers 45 = .ok (.aload_n 0, 1) := by decide +kernel
theorem dX8_remembers_46 : decode cX8_remembers 46 = .ok (.getfield 36, 3) := by decide +kernel
theorem dX8_remembers_49 : decode cX8_remembers 49 = .ok (.iload_n 1, 1) := by decide +kernel
theorem dX8_remembers_50 : decode cX8_remembers 50 = .ok (.invokevirtual 146, 3) := by decide +kernel
theorem dX8_remembers_53 : decode cX8_remembers 53 = .ok (.ireturn, 1) := by decide +kernel
set_option maxRecDepth 20000 in
theorem ggX8_hearth_X6_person : GoodIn wsX8_hearth wsX6_person := goodIn_r _ [6, 7, 8, 9, 10, 11, 119, 120, 121, 122, 123, 124, 125, 126] (by decide +kernel) (by decide +kernel)
set_option maxRecDepth 20000 in
theorem gX8_hearth_X6_person_n72 : GoodIn wsX8_hearth (wsX6_person) := ggX8_hearth_X6_person
set_option maxRecDepth 20000 in
theorem ggX8_hearth_X8_isOneOf : GoodIn wsX8_hearth wsX8_isOneOf := goodIn_r _ [11] (by decide +kernel) (by decide +kernel)
set_option maxRecDepth 20000 in
theorem gX8_hearth_X8_isOneOf : GoodIn wsX8_hearth (va_wsS RX8 49 yX8_isOneOf wsX8_isOneOf) := goodIn_app (goodIn_of _ (by decide +kernel)) ggX8_hearth_X8_isOneOf
set_option maxRecDepth 20000 in
theorem ggX8_hearth_X8_refusal : GoodIn wsX8_hearth wsX8_refusal := goodIn_r _ [16, 1, 17, 4, 18, 19, 7, 114, 115, 116, 117, 118, 119, 120, 121, 122, 123, 124, 125, 126] (by decide +kernel) (by decide +kernel)
set_option maxRecDepth 20000 in
theorem gX8_hearth_X8_refusal : GoodIn wsX8_hearth (wsV RX8 97 RX8 yX8_refusal wsX8_refusal) := goodIn_app (goodIn_of _ (by decide +kernel)) ggX8_hearth_X8_refusal
set_option maxRecDepth 20000 in
theorem ggX8_hearth_X8_reach : GoodIn wsX8_hearth wsX8_reach := goodIn_r _ [23, 2, 1, 24, 25, 26, 27, 28, 29, 30, 31, 32, 33, 34, 35, 3, 4, 5, 6, 7, 8, 9, 10, 11, 36, 37, 38, 39, 40, 41, 42, 43, 44, 45, 46, 47, 48, 49, 50, 51, 52, 53, 54, 55, 56, 57, 58, 59, 60, 61, 62, 63, 64, 65, 66, 67, 68, 69, 70, 71, 72, 73, 74, 75, 76, 77, 78, 79, 80, 81, 82, 83, 84, 85, 86, 87, 88, 89, 90, 91, 92, 93, 94, 95, 96, 97, 98, 99, 100, 101, 102, 103, 104, 105, 106, 107, 108, 109, 110, 114, 115, 116, 117, 118, 119, 120, 121, 122, 123, 124, 125, 126, 127, 128, 129, 130, 131, 132, 133, 134, 135, 136, 137, 138, 139, 140, 141, 142, 143, 144, 145, 146, 147, 148] (by decide +kernel) (by decide +kernel)
set_option maxRecDepth 20000 in
theorem gX8_hearth_X8_reach : GoodIn wsX8_hearth (wsV RX8 143 RX8 yX8_reach wsX8_reach) := goodIn_app (goodIn_of _ (by decide +kernel)) ggX8_hearth_X8_reach
set_option maxRecDepth 20000 in
theorem ggX8_hearth_X4_placeOf : GoodIn wsX8_hearth wsX4_placeOf := goodIn_r _ [113, 32, 9, 10, 11, 127, 128, 129, 130, 131, 132, 133, 134, 135, 136] (by decide +kernel) (by decide +kernel)
set_option maxRecDepth 20000 in
theorem gX8_hearth_X4_placeOf_n149 : GoodIn wsX8_hearth (wsX4_placeOf) := ggX8_hearth_X4_placeOf
theorem dX8_hearth_0 : decode cX8_hearth 0 = .ok (.aload_n 0, 1) := by decide +kernel
theorem dX8_hearth_1 : decode cX8_hearth 1 = .ok (.aload_n 0, 1) := by decide +kernel
theorem dX8_hearth_2 : decode cX8_hearth 2 = .ok (.getfield 27, 3) := by decide +kernel
theorem dX8_hearth_5 : decode cX8_hearth 5 = .ok (.iload_n 1, 1) := by decide +kernel
theorem dX8_hearth_6 : decode cX8_hearth 6 = .ok (.invokevirtual 72, 3) := by decide +kernel
theorem dX8_hearth_9 : decode cX8_hearth 9 = .ok (.ifnull 7, 3) := by decide +kernel
theorem dX8_hearth_12 : decode cX8_hearth 12 = .ok (.iconst 1, 1) := by decide +kernel
theorem dX8_hearth_13 : decode cX8_hearth 13 = .ok (.goto 4, 3) := by decide +kernel
theorem dX8_hearth_16 : decode cX8_hearth 16 = .ok (.iconst 0, 1) := by decide +kernel
theorem dX8_hearth_17 : decode cX8_hearth 17 = .ok (.iload_n 2, 1) := by decide +kernel
theorem dX8_hearth_18 : decode cX8_hearth 18 = .ok (.bipush 40, 2) := by decide +kernel
theorem dX8_hearth_20 : decode cX8_hearth 20 = .ok (.invokestatic 49, 3) := by decide +kernel
theorem dX8_hearth_23 : decode cX8_hearth 23 = .ok (.invokevirtual 97, 3) := by decide +kernel
theorem dX8_hearth_26 : decode cX8_hearth 26 = .ok (.istore_n 3, 1) := by decide +kernel
theorem dX8_hearth_27 : decode cX8_hearth 27 = .ok (.iload_n 3, 1) := by decide +kernel
theorem dX8_hearth_28 : decode cX8_hearth 28 = .ok (.ifCond .eq 5, 3) := by decide +kernel
theorem dX8_hearth_31 : decode cX8_hearth 31 = .ok (.iload_n 3, 1) := by decide +kernel
theorem dX8_hearth_32 : decode cX8_hearth 32 = .ok (.ireturn, 1) := by decide +kernel
theorem dX8_hearth_33 : decode cX8_hearth 33 = .ok (.aload_n 0, 1) := by decide +kernel
theorem dX8_hearth_34 : decode cX8_hearth 34 = .ok (.iload_n 2, 1) := by decide +kernel
theorem dX8_hearth_35 : decode cX8_hearth 35 = .ok (.aload_n 0, 1) := by decide +kernel
theorem dX8_hearth_36 : decode cX8_hearth 36 = .ok (.getfield 27, 3) := by decide +kernel
theorem dX8_hearth_39 : decode cX8_hearth 39 = .ok (.getfield 91, 3) := by decide +kernel
theorem dX8_hearth_42 : decode cX8_hearth 42 = .ok (.invokevirtual 143, 3) := by decide +kernel
theorem dX8_hearth_45 : decode cX8_hearth 45 = .ok (.aload_n 0, 1) := by decide +kernel
theorem dX8_hearth_46 : decode cX8_hearth 46 = .ok (.getfield 36, 3) := by decide +kernel
theorem dX8_hearth_49 : decode cX8_hearth 49 = .ok (.iload_n 1, 1) := by decide +kernel
theorem dX8_hearth_50 : decode cX8_hearth 50 = .ok (.invokevirtual 149, 3) := by decide +kernel
theorem dX8_hearth_53 : decode cX8_hearth 53 = .ok (.ireturn, 1) := by decide +kernel
set_option maxRecDepth 20000 in
theorem ggX8_told_X8_isOneOf : GoodIn wsX8_told wsX8_isOneOf := goodIn_r _ [6] (by decide +kernel) (by decide +kernel)
set_option maxRecDepth 20000 in
theorem gX8_told_X8_isOneOf : GoodIn wsX8_told (va_wsS RX8 49 yX8_isOneOf wsX8_isOneOf) := goodIn_app (goodIn_of _ (by decide +kernel)) ggX8_told_X8_isOneOf
set_option maxRecDepth 20000 in
theorem ggX8_told_X8_refusal : GoodIn wsX8_told wsX8_refusal := goodIn_r _ [10, 1, 11, 12, 13, 14, 15, 114, 115, 116, 117, 118, 119, 120, 121, 122, 123, 124, 125, 126] (by decide +kernel) (by decide +kernel)
set_option maxRecDepth 20000 in
theorem gX8_told_X8_refusal : GoodIn wsX8_told (wsV RX8 97 RX8 yX8_refusal wsX8_refusal) := goodIn_app (goodIn_of _ (by decide +kernel)) ggX8_told_X8_refusal
set_option maxRecDepth 20000 in
theorem ggX8_told_X8_reach : GoodIn wsX8_told wsX8_reach := goodIn_r _ [19, 2, 1, 20, 21, 22, 23, 24, 25, 26, 27, 28, 29, 30, 31, 32, 12, 33, 34, 15, 35, 4, 5, 6, 36, 37, 38, 39, 40, 41, 42, 43, 44, 45, 46, 47, 48, 49, 50, 51, 52, 53, 54, 55, 56, 57, 58, 59, 60, 61, 62, 63, 64, 65, 66, 67, 68, 69, 70, 71, 72, 73, 74, 75, 76, 77, 78, 79, 80, 81, 82, 83, 84, 85, 86, 87, 88, 89, 90, 91, 92, 93, 94, 95, 96, 97, 98, 99, 100, 101, 102, 103, 104, 105, 106, 107, 108, 109, 110, 114, 115, 116, 117, 118, 119, 120, 121, 122, 123, 124, 125, 126, 127, 128, 129, 130, 131, 132, 133, 134, 135, 136, 137, 138, 139, 140, 141, 142, 143, 144, 145, 146, 147, 148] (by decide +kernel) (by decide +kernel)
set_option maxRecDepth 20000 in
theorem gX8_told_X8_reach : GoodIn wsX8_told (wsV RX8 143 RX8 yX8_reach wsX8_reach) := goodIn_app (goodIn_of _ (by decide +kernel)) ggX8_told_X8_reach
set_option maxRecDepth 20000 in
theorem ggX8_told_X4_taleAt : GoodIn wsX8_told wsX4_taleAt := goodIn_r _ [113, 96, 4, 5, 6, 127, 128, 129, 130, 131, 132, 133, 134, 135, 136] (by decide +kernel) (by decide +kernel)
set_option maxRecDepth 20000 in
theorem gX8_told_X4_taleAt_n152 : GoodIn wsX8_told (wsX4_taleAt) := ggX8_told_X4_taleAt
theorem dX8_told_0 : decode cX8_told 0 = .ok (.aload_n 0, 1) := by decide +kernel
theorem dX8_told_1 : decode cX8_told 1 = .ok (.iload_n 1, 1) := by decide +kernel
theorem dX8_told_2 : decode cX8_told 2 = .ok (.iconst 3, 1) := by decide +kernel
theorem dX8_told_3 : decode cX8_told 3 = .ok (.invokestatic 49, 3) := by decide +kernel
theorem dX8_told_6 : decode cX8_told 6 = .ok (.iload_n 2, 1) := by decide +kernel
theorem dX8_told_7 : decode cX8_told 7 = .ok (.bipush 40, 2) := by decide +kernel
theorem dX8_told_9 : decode cX8_told 9 = .ok (.invokestatic 49, 3) := by decide +kernel
theorem dX8_told_12 : decode cX8_told 12 = .ok (.invokevirtual 97, 3) := by decide +kernel
theorem dX8_told_15 : decode cX8_told 15 = .ok (.istore_n 3, 1) := by decide +kernel
theorem dX8_told_16 : decode cX8_told 16 = .ok (.iload_n 3, 1) := by decide +kernel
theorem dX8_told_17 : decode cX8_told 17 = .ok (.ifCond .eq 5, 3) := by decide +kernel
theorem dX8_told_20 : decode cX8_told 20 = .ok (.iload_n 3, 1) := by decide +kernel
theorem dX8_told_21 : decode cX8_told 21 = .ok (.ireturn, 1) := by decide +kernel
theorem dX8_told_22 : decode cX8_told 22 = .ok (.aload_n 0, 1) := by decide +kernel
theorem dX8_told_23 : decode cX8_told 23 = .ok (.iload_n 2, 1) := by decide +kernel
theorem dX8_told_24 : decode cX8_told 24 = .ok (.aload_n 0, 1) := by decide +kernel
theorem dX8_told_25 : decode cX8_told 25 = .ok (.getfield 27, 3) := by decide +kernel
theorem dX8_told_28 : decode cX8_told 28 = .ok (.getfield 91, 3) := by decide +kernel
theorem dX8_told_31 : decode cX8_told 31 = .ok (.invokevirtual 143, 3) := by decide +kernel
theorem dX8_told_34 : decode cX8_told 34 = .ok (.aload_n 0, 1) := by decide +kernel
theorem dX8_told_35 : decode cX8_told 35 = .ok (.getfield 36, 3) := by decide +kernel
theorem dX8_told_38 : decode cX8_told 38 = .ok (.iload_n 1, 1) := by decide +kernel
theorem dX8_told_39 : decode cX8_told 39 = .ok (.invokevirtual 152, 3) := by decide +kernel
theorem dX8_told_42 : decode cX8_told 42 = .ok (.ireturn, 1) := by decide +kernel
set_option maxRecDepth 20000 in
theorem ggX8_forbidden_X8_isOneOf : GoodIn wsX8_forbidden wsX8_isOneOf := goodIn_r _ [6] (by decide +kernel) (by decide +kernel)
set_option maxRecDepth 20000 in
theorem gX8_forbidden_X8_isOneOf : GoodIn wsX8_forbidden (va_wsS RX8 49 yX8_isOneOf wsX8_isOneOf) := goodIn_app (goodIn_of _ (by decide +kernel)) ggX8_forbidden_X8_isOneOf
set_option maxRecDepth 20000 in
theorem ggX8_forbidden_X6_isEmpty : GoodIn wsX8_forbidden wsX6_isEmpty := goodIn_r _ [10, 11, 123, 124, 125, 126, 127, 128, 129, 130] (by decide +kernel) (by decide +kernel)
set_option maxRecDepth 20000 in
theorem gX8_forbidden_X6_isEmpty_n124 : GoodIn wsX8_forbidden (wsX6_isEmpty) := ggX8_forbidden_X6_isEmpty
set_option maxRecDepth 20000 in
theorem ggX8_forbidden_X8_reach : GoodIn wsX8_forbidden wsX8_reach := goodIn_r _ [15, 2, 1, 16, 17, 18, 19, 20, 21, 22, 23, 24, 25, 26, 27, 28, 8, 29, 30, 11, 31, 4, 5, 6, 32, 33, 34, 35, 36, 37, 38, 39, 40, 41, 42, 43, 44, 45, 46, 47, 48, 49, 50, 51, 52, 53, 54, 55, 56, 57, 58, 59, 60, 61, 62, 63, 64, 65, 66, 67, 68, 69, 70, 71, 72, 73, 74, 75, 76, 77, 78, 79, 80, 81, 82, 83, 84, 85, 86, 87, 88, 89, 90, 91, 92, 93, 94, 95, 96, 97, 98, 99, 100, 101, 102, 103, 104, 105, 106, 118, 119, 120, 121, 122, 123, 124, 125, 126, 127, 128, 129, 130, 131, 132, 133, 134, 135, 136, 137, 138, 139, 140, 141, 142, 143, 144, 145, 146, 147, 148, 149, 150, 151, 152] (by decide +kernel) (by decide +kernel)
set_option maxRecDepth 20000 in
theorem gX8_forbidden_X8_reach : GoodIn wsX8_forbidden (wsV RX8 143 RX8 yX8_reach wsX8_reach) := goodIn_app (goodIn_of _ (by decide +kernel)) ggX8_forbidden_X8_reach
set_option maxRecDepth 20000 in
theorem ggX8_forbidden_X4_bannedDeeds : GoodIn wsX8_forbidden wsX4_bannedDeeds := goodIn_r _ [109, 23, 110, 111, 112, 17, 113, 26, 101, 5, 102, 114, 115, 116, 117, 22, 70, 71, 72, 73, 74, 75, 76, 77, 78, 79, 4, 6, 131, 132, 133, 134, 135, 136, 137, 138, 139, 140, 123, 124, 125, 126, 127, 128, 129, 130, 150, 151, 152] (by decide +kernel) (by decide +kernel)
set_option maxRecDepth 20000 in
theorem gX8_forbidden_X4_bannedDeeds_n155 : GoodIn wsX8_forbidden (wsX4_bannedDeeds) := ggX8_forbidden_X4_bannedDeeds
theorem dX8_forbidden_0 : decode cX8_forbidden 0 = .ok (.iload_n 1, 1) := by decide +kernel
theorem dX8_forbidden_1 : decode cX8_forbidden 1 = .ok (.bipush 40, 2) := by decide +kernel
theorem dX8_forbidden_3 : decode cX8_forbidden 3 = .ok (.invokestatic 49, 3) := by decide +kernel
theorem dX8_forbidden_6 : decode cX8_forbidden 6 = .ok (.ifCond .ne 6, 3) := by decide +kernel
theorem dX8_forbidden_9 : decode cX8_forbidden 9 = .ok (.bipush (-2), 2) := by decide +kernel
theorem dX8_forbidden_11 : decode cX8_forbidden 11 = .ok (.ireturn, 1) := by decide +kernel
theorem dX8_forbidden_12 : decode cX8_forbidden 12 = .ok (.aload_n 0, 1) := by decide +kernel
theorem dX8_forbidden_13 : decode cX8_forbidden 13 = .ok (.getfield 27, 3) := by decide +kernel
theorem dX8_forbidden_16 : decode cX8_forbidden 16 = .ok (.invokevirtual 124, 3) := by decide +kernel
theorem dX8_forbidden_19 : decode cX8_forbidden 19 = .ok (.ifCond .eq 6, 3) := by decide +kernel
theorem dX8_forbidden_22 : decode cX8_forbidden 22 = .ok (.bipush (-3), 2) := by decide +kernel
theorem dX8_forbidden_24 : decode cX8_forbidden 24 = .ok (.ireturn, 1) := by decide +kernel
theorem dX8_forbidden_25 : decode cX8_forbidden 25 = .ok (.aload_n 0, 1) := by decide +kernel
theorem dX8_forbidden_26 : decode cX8_forbidden 26 = .ok (.iload_n 1, 1) := by decide +kernel
