set_option maxRecDepth 20000 in
theorem ggX0_init_X2_init : GoodIn wsX0_init wsX2_init := goodIn_r _ [3, 4, 5, 6, 7, 8, 9, 10, 11, 12, 13, 14, 15, 16, 17, 18] (by decide +kernel) (by decide +kernel)
set_option maxRecDepth 20000 in
theorem gX0_init_X2_init_n1 : GoodIn wsX0_init (wsX2_init) := ggX0_init_X2_init
theorem dX0_init_0 : decode cX0_init 0 = .ok (.aload_n 0, 1) := by decide +kernel
theorem dX0_init_1 : decode cX0_init 1 = .ok (.iload_n 1, 1) := by decide +kernel
theorem dX0_init_2 : decode cX0_init 2 = .ok (.iload_n 2, 1) := by decide +kernel
theorem dX0_init_3 : decode cX0_init 3 = .ok (.iload_n 3, 1) := by decide +kernel
theorem dX0_init_4 : decode cX0_init 4 = .ok (.invokespecial 1, 3) := by decide +kernel
theorem dX0_init_7 : decode cX0_init 7 = .ok (.return_, 1) := by decide +kernel
theorem dX0_kind_0 : decode cX0_kind 0 = .ok (.iconst 1, 1) := by decide +kernel
theorem dX0_kind_1 : decode cX0_kind 1 = .ok (.ireturn, 1) := by decide +kernel
set_option maxRecDepth 20000 in
theorem ggX0_memory_X2_memory : GoodIn wsX0_memory wsX2_memory := goodIn_r _ [6, 7, 8, 9, 10, 11, 12, 13, 14, 15, 16] (by decide +kernel) (by decide +kernel)
set_option maxRecDepth 20000 in
theorem gX0_memory_X2_memory_s7 : GoodIn wsX0_memory (va_wsSU RX0 7 yX2_memory wsX2_memory) := goodIn_app (goodIn_of _ (by decide +kernel)) ggX0_memory_X2_memory
theorem dX0_memory_0 : decode cX0_memory 0 = .ok (.aload_n 0, 1) := by decide +kernel
theorem dX0_memory_1 : decode cX0_memory 1 = .ok (.invokespecial 7, 3) := by decide +kernel
theorem dX0_memory_4 : decode cX0_memory 4 = .ok (.iconst 2, 1) := by decide +kernel
theorem dX0_memory_5 : decode cX0_memory 5 = .ok (.iadd, 1) := by decide +kernel
theorem dX0_memory_6 : decode cX0_memory 6 = .ok (.ireturn, 1) := by decide +kernel
set_option maxRecDepth 20000 in
theorem ggX0_telling_X7_leave : GoodIn wsX0_telling wsX7_leave := goodIn_r _ [4, 5, 21] (by decide +kernel) (by decide +kernel)
set_option maxRecDepth 20000 in
theorem gX0_telling_X7_leave_n11 : GoodIn wsX0_telling (wsX7_leave) := ggX0_telling_X7_leave
set_option maxRecDepth 20000 in
theorem ggX0_telling_X2_telling : GoodIn wsX0_telling wsX2_telling := goodIn_r _ [11, 12, 13, 14, 15, 10, 16, 17, 1, 2, 3, 4, 5, 18, 19, 20, 22, 23, 24, 25, 26, 27, 28, 29, 30, 21] (by decide +kernel) (by decide +kernel)
set_option maxRecDepth 20000 in
theorem gX0_telling_X2_telling_s17 : GoodIn wsX0_telling (va_wsSU RX0 17 yX2_telling wsX2_telling) := goodIn_app (goodIn_of _ (by decide +kernel)) ggX0_telling_X2_telling
theorem dX0_telling_0 : decode cX0_telling 0 = .ok (.aload_n 1, 1) := by decide +kernel
theorem dX0_telling_1 : decode cX0_telling 1 = .ok (.iconst 2, 1) := by decide +kernel
theorem dX0_telling_2 : decode cX0_telling 2 = .ok (.invokevirtual 11, 3) := by decide +kernel
theorem dX0_telling_5 : decode cX0_telling 5 = .ok (.aload_n 0, 1) := by decide +kernel
theorem dX0_telling_6 : decode cX0_telling 6 = .ok (.aload_n 1, 1) := by decide +kernel
theorem dX0_telling_7 : decode cX0_telling 7 = .ok (.invokespecial 17, 3) := by decide +kernel
theorem dX0_telling_10 : decode cX0_telling 10 = .ok (.bipush 100, 2) := by decide +kernel
theorem dX0_telling_12 : decode cX0_telling 12 = .ok (.iadd, 1) := by decide +kernel
theorem dX0_telling_13 : decode cX0_telling 13 = .ok (.ireturn, 1) := by decide +kernel
set_option maxRecDepth 20000 in
theorem ggX1_init_X0_init : GoodIn wsX1_init wsX0_init := goodIn_r _ [3, 4, 5, 6, 7, 8, 9, 10, 11, 12, 13, 14, 15, 16, 17, 18, 19, 20, 21] (by decide +kernel) (by decide +kernel)
set_option maxRecDepth 20000 in
theorem gX1_init_X0_init_n1 : GoodIn wsX1_init (wsX0_init) := ggX1_init_X0_init
theorem dX1_init_0 : decode cX1_init 0 = .ok (.aload_n 0, 1) := by decide +kernel
theorem dX1_init_1 : decode cX1_init 1 = .ok (.iload_n 1, 1) := by decide +kernel
theorem dX1_init_2 : decode cX1_init 2 = .ok (.iload_n 2, 1) := by decide +kernel
theorem dX1_init_3 : decode cX1_init 3 = .ok (.iload_n 3, 1) := by decide +kernel
theorem dX1_init_4 : decode cX1_init 4 = .ok (.invokespecial 1, 3) := by decide +kernel
theorem dX1_init_7 : decode cX1_init 7 = .ok (.return_, 1) := by decide +kernel
theorem dX1_kind_0 : decode cX1_kind 0 = .ok (.iconst 2, 1) := by decide +kernel
theorem dX1_kind_1 : decode cX1_kind 1 = .ok (.ireturn, 1) := by decide +kernel
set_option maxRecDepth 20000 in
theorem ggX1_memory_X0_memory : GoodIn wsX1_memory wsX0_memory := goodIn_r _ [6, 7, 8, 9, 10, 11, 12, 13, 14, 15, 16, 17, 18, 19, 20, 21, 22] (by decide +kernel) (by decide +kernel)
set_option maxRecDepth 20000 in
theorem gX1_memory_X0_memory_s7 : GoodIn wsX1_memory (va_wsSU RX1 7 yX0_memory wsX0_memory) := goodIn_app (goodIn_of _ (by decide +kernel)) ggX1_memory_X0_memory
theorem dX1_memory_0 : decode cX1_memory 0 = .ok (.iconst 2, 1) := by decide +kernel
theorem dX1_memory_1 : decode cX1_memory 1 = .ok (.aload_n 0, 1) := by decide +kernel
theorem dX1_memory_2 : decode cX1_memory 2 = .ok (.invokespecial 7, 3) := by decide +kernel
theorem dX1_memory_5 : decode cX1_memory 5 = .ok (.imul, 1) := by decide +kernel
theorem dX1_memory_6 : decode cX1_memory 6 = .ok (.ireturn, 1) := by decide +kernel
set_option maxRecDepth 20000 in
theorem ggX1_telling_X7_leave : GoodIn wsX1_telling wsX7_leave := goodIn_r _ [4, 5, 30] (by decide +kernel) (by decide +kernel)
set_option maxRecDepth 20000 in
theorem gX1_telling_X7_leave_n11 : GoodIn wsX1_telling (wsX7_leave) := ggX1_telling_X7_leave
set_option maxRecDepth 20000 in
theorem ggX1_telling_X0_telling : GoodIn wsX1_telling wsX0_telling := goodIn_r _ [11, 1, 2, 3, 4, 5, 12, 13, 14, 15, 16, 17, 18, 19, 20, 21, 22, 23, 24, 25, 26, 30, 31, 32, 33, 34, 35, 36, 37, 38, 39] (by decide +kernel) (by decide +kernel)
set_option maxRecDepth 20000 in
theorem gX1_telling_X0_telling_s17 : GoodIn wsX1_telling (va_wsSU RX1 17 yX0_telling wsX0_telling) := goodIn_app (goodIn_of _ (by decide +kernel)) ggX1_telling_X0_telling
set_option maxRecDepth 20000 in
theorem ggX1_telling_X2_herderTelling : GoodIn wsX1_telling wsX2_herderTelling := goodIn_r _ [22, 23, 1, 2, 3, 4, 5, 31, 32, 33, 34, 35, 36, 37, 38, 39, 30] (by decide +kernel) (by decide +kernel)
set_option maxRecDepth 20000 in
theorem gX1_telling_X2_herderTelling_u21X1 : GoodIn wsX1_telling (va_wsU RX1 21 RX1 "TaleBans$Herder" ⟨"TaleBans$Granny", "herderTelling", "(LTaleBans$Trace;)I"⟩ yX2_herderTelling wsX2_herderTelling) := goodIn_app (goodIn_of _ (by decide +kernel)) ggX1_telling_X2_herderTelling
theorem dX1_telling_0 : decode cX1_telling 0 = .ok (.aload_n 1, 1) := by decide +kernel
theorem dX1_telling_1 : decode cX1_telling 1 = .ok (.iconst 3, 1) := by decide +kernel
theorem dX1_telling_2 : decode cX1_telling 2 = .ok (.invokevirtual 11, 3) := by decide +kernel
theorem dX1_telling_5 : decode cX1_telling 5 = .ok (.aload_n 0, 1) := by decide +kernel
theorem dX1_telling_6 : decode cX1_telling 6 = .ok (.aload_n 1, 1) := by decide +kernel
theorem dX1_telling_7 : decode cX1_telling 7 = .ok (.invokespecial 17, 3) := by decide +kernel
theorem dX1_telling_10 : decode cX1_telling 10 = .ok (.istore_n 2, 1) := by decide +kernel
theorem dX1_telling_11 : decode cX1_telling 11 = .ok (.iload_n 2, 1) := by decide +kernel
theorem dX1_telling_12 : decode cX1_telling 12 = .ok (.aload_n 0, 1) := by decide +kernel
theorem dX1_telling_13 : decode cX1_telling 13 = .ok (.aload_n 1, 1) := by decide +kernel
theorem dX1_telling_14 : decode cX1_telling 14 = .ok (.invokevirtual 21, 3) := by decide +kernel
theorem dX1_telling_17 : decode cX1_telling 17 = .ok (.iadd, 1) := by decide +kernel
theorem dX1_telling_18 : decode cX1_telling 18 = .ok (.ireturn, 1) := by decide +kernel
set_option maxRecDepth 20000 in
theorem ggX1_greeting_X7_leave : GoodIn wsX1_greeting wsX7_leave := goodIn_r _ [4, 5, 6] (by decide +kernel) (by decide +kernel)
set_option maxRecDepth 20000 in
theorem gX1_greeting_X7_leave_n11 : GoodIn wsX1_greeting (wsX7_leave) := ggX1_greeting_X7_leave
theorem dX1_greeting_0 : decode cX1_greeting 0 = .ok (.aload_n 1, 1) := by decide +kernel
theorem dX1_greeting_1 : decode cX1_greeting 1 = .ok (.iconst 5, 1) := by decide +kernel
theorem dX1_greeting_2 : decode cX1_greeting 2 = .ok (.invokevirtual 11, 3) := by decide +kernel
theorem dX1_greeting_5 : decode cX1_greeting 5 = .ok (.bipush 70, 2) := by decide +kernel
theorem dX1_greeting_7 : decode cX1_greeting 7 = .ok (.ireturn, 1) := by decide +kernel
theorem dX2_init_0 : decode cX2_init 0 = .ok (.aload_n 0, 1) := by decide +kernel
theorem dX2_init_1 : decode cX2_init 1 = .ok (.invokespecial 1, 3) := by decide +kernel
theorem dX2_init_4 : decode cX2_init 4 = .ok (.aload_n 0, 1) := by decide +kernel
theorem dX2_init_5 : decode cX2_init 5 = .ok (.iload_n 1, 1) := by decide +kernel
theorem dX2_init_6 : decode cX2_init 6 = .ok (.putfield 7, 3) := by decide +kernel
theorem dX2_init_9 : decode cX2_init 9 = .ok (.aload_n 0, 1) := by decide +kernel
theorem dX2_init_10 : decode cX2_init 10 = .ok (.iload_n 2, 1) := by decide +kernel
theorem dX2_init_11 : decode cX2_init 11 = .ok (.putfield 13, 3) := by decide +kernel
theorem dX2_init_14 : decode cX2_init 14 = .ok (.aload_n 0, 1) := by decide +kernel
theorem dX2_init_15 : decode cX2_init 15 = .ok (.iload_n 3, 1) := by decide +kernel
theorem dX2_init_16 : decode cX2_init 16 = .ok (.putfield 16, 3) := by decide +kernel
theorem dX2_init_19 : decode cX2_init 19 = .ok (.return_, 1) := by decide +kernel
theorem dX2_kind_0 : decode cX2_kind 0 = .ok (.iconst 0, 1) := by decide +kernel
theorem dX2_kind_1 : decode cX2_kind 1 = .ok (.ireturn, 1) := by decide +kernel
theorem dX2_memory_0 : decode cX2_memory 0 = .ok (.aload_n 0, 1) := by decide +kernel
theorem dX2_memory_1 : decode cX2_memory 1 = .ok (.getfield 13, 3) := by decide +kernel
theorem dX2_memory_4 : decode cX2_memory 4 = .ok (.ireturn, 1) := by decide +kernel
set_option maxRecDepth 20000 in
theorem ggX2_telling_X2_herderTelling : GoodIn wsX2_telling wsX2_herderTelling := goodIn_r _ [6, 7, 8, 9, 10, 11, 12, 16, 17, 18, 19, 20, 21, 22, 23, 24, 25] (by decide +kernel) (by decide +kernel)
set_option maxRecDepth 20000 in
theorem gX2_telling_X2_herderTelling_u19X0 : GoodIn wsX2_telling (va_wsU RX2 19 RX0 "TaleBans$Herder" ⟨"TaleBans$Herder", "herderTelling", "(LTaleBans$Trace;)I"⟩ yX2_herderTelling wsX2_herderTelling) := goodIn_app (goodIn_of _ (by decide +kernel)) ggX2_telling_X2_herderTelling
set_option maxRecDepth 20000 in
theorem gX2_telling_X2_herderTelling_u19X1 : GoodIn wsX2_telling (va_wsU RX2 19 RX1 "TaleBans$Herder" ⟨"TaleBans$Herder", "herderTelling", "(LTaleBans$Trace;)I"⟩ yX2_herderTelling wsX2_herderTelling) := goodIn_app (goodIn_of _ (by decide +kernel)) ggX2_telling_X2_herderTelling
set_option maxRecDepth 20000 in
theorem gX2_telling_X2_herderTelling : GoodIn wsX2_telling (wsV RX2 19 RX2 yX2_herderTelling wsX2_herderTelling) := goodIn_app (goodIn_of _ (by decide +kernel)) ggX2_telling_X2_herderTelling
theorem dX2_telling_0 : decode cX2_telling 0 = .ok (.aload_n 0, 1) := by decide +kernel
theorem dX2_telling_1 : decode cX2_telling 1 = .ok (.aload_n 1, 1) := by decide +kernel
theorem dX2_telling_2 : decode cX2_telling 2 = .ok (.invokevirtual 19, 3) := by decide +kernel
theorem dX2_telling_5 : decode cX2_telling 5 = .ok (.ireturn, 1) := by decide +kernel
set_option maxRecDepth 20000 in
theorem ggX2_herderTelling_X7_leave : GoodIn wsX2_herderTelling wsX7_leave := goodIn_r _ [5, 6, 16] (by decide +kernel) (by decide +kernel)
set_option maxRecDepth 20000 in
theorem gX2_herderTelling_X7_leave_n23 : GoodIn wsX2_herderTelling (wsX7_leave) := ggX2_herderTelling_X7_leave
theorem dX2_herderTelling_0 : decode cX2_herderTelling 0 = .ok (.aload_n 1, 1) := by decide +kernel
theorem dX2_herderTelling_1 : decode cX2_herderTelling 1 = .ok (.iconst 1, 1) := by decide +kernel
theorem dX2_herderTelling_2 : decode cX2_herderTelling 2 = .ok (.invokevirtual 23, 3) := by decide +kernel
theorem dX2_herderTelling_5 : decode cX2_herderTelling 5 = .ok (.aload_n 0, 1) := by decide +kernel
theorem dX2_herderTelling_6 : decode cX2_herderTelling 6 = .ok (.getfield 13, 3) := by decide +kernel
theorem dX2_herderTelling_9 : decode cX2_herderTelling 9 = .ok (.ireturn, 1) := by decide +kernel
set_option maxRecDepth 20000 in
theorem ggX2_greeting_X7_leave : GoodIn wsX2_greeting wsX7_leave := goodIn_r _ [5, 6, 16] (by decide +kernel) (by decide +kernel)
set_option maxRecDepth 20000 in
theorem gX2_greeting_X7_leave_n23 : GoodIn wsX2_greeting (wsX7_leave) := ggX2_greeting_X7_leave
theorem dX2_greeting_0 : decode cX2_greeting 0 = .ok (.aload_n 1, 1) := by decide +kernel
theorem dX2_greeting_1 : decode cX2_greeting 1 = .ok (.iconst 4, 1) := by decide +kernel
theorem dX2_greeting_2 : decode cX2_greeting 2 = .ok (.invokevirtual 23, 3) := by decide +kernel
theorem dX2_greeting_5 : decode cX2_greeting 5 = .ok (.aload_n 0, 1) := by decide +kernel
theorem dX2_greeting_6 : decode cX2_greeting 6 = .ok (.getfield 7, 3) := by decide +kernel
theorem dX2_greeting_9 : decode cX2_greeting 9 = .ok (.ireturn, 1) := by decide +kernel
theorem dX3_init_0 : decode cX3_init 0 = .ok (.aload_n 0, 1) := by decide +kernel
theorem dX3_init_1 : decode cX3_init 1 = .ok (.invokespecial 3, 3) := by decide +kernel
theorem dX3_init_4 : decode cX3_init 4 = .ok (.aload_n 0, 1) := by decide +kernel
theorem dX3_init_5 : decode cX3_init 5 = .ok (.iload_n 1, 1) := by decide +kernel
theorem dX3_init_6 : decode cX3_init 6 = .ok (.putfield 9, 3) := by decide +kernel
theorem dX3_init_9 : decode cX3_init 9 = .ok (.aload_n 0, 1) := by decide +kernel
theorem dX3_init_10 : decode cX3_init 10 = .ok (.iload_n 1, 1) := by decide +kernel
theorem dX3_init_11 : decode cX3_init 11 = .ok (.iconst 4, 1) := by decide +kernel
theorem dX3_init_12 : decode cX3_init 12 = .ok (.imul, 1) := by decide +kernel
theorem dX3_init_13 : decode cX3_init 13 = .ok (.newarray .int, 2) := by decide +kernel
theorem dX3_init_15 : decode cX3_init 15 = .ok (.putfield 15, 3) := by decide +kernel
theorem dX3_init_18 : decode cX3_init 18 = .ok (.return_, 1) := by decide +kernel
theorem dX3_has_0 : decode cX3_has 0 = .ok (.iload_n 1, 1) := by decide +kernel
theorem dX3_has_1 : decode cX3_has 1 = .ok (.ifCond .lt 15, 3) := by decide +kernel
theorem dX3_has_4 : decode cX3_has 4 = .ok (.iload_n 1, 1) := by decide +kernel
theorem dX3_has_5 : decode cX3_has 5 = .ok (.aload_n 0, 1) := by decide +kernel
theorem dX3_has_6 : decode cX3_has 6 = .ok (.getfield 19, 3) := by decide +kernel
theorem dX3_has_9 : decode cX3_has 9 = .ok (.if_icmp .ge 7, 3) := by decide +kernel
theorem dX3_has_12 : decode cX3_has 12 = .ok (.iconst 1, 1) := by decide +kernel
theorem dX3_has_13 : decode cX3_has 13 = .ok (.goto 4, 3) := by decide +kernel
theorem dX3_has_16 : decode cX3_has 16 = .ok (.iconst 0, 1) := by decide +kernel
theorem dX3_has_17 : decode cX3_has 17 = .ok (.ireturn, 1) := by decide +kernel
set_option maxRecDepth 20000 in
theorem ggX3_at_X3_has : GoodIn wsX3_at wsX3_has := goodIn_r _ [6, 7, 11, 12, 13] (by decide +kernel) (by decide +kernel)
set_option maxRecDepth 20000 in
theorem gX3_at_X3_has : GoodIn wsX3_at (wsV RX3 22 RX3 yX3_has wsX3_has) := goodIn_app (goodIn_of _ (by decide +kernel)) ggX3_at_X3_has
set_option maxRecDepth 20000 in
theorem ggX3_at_X8_isOneOf : GoodIn wsX3_at wsX8_isOneOf := goodIn_r _ [10] (by decide +kernel) (by decide +kernel)
set_option maxRecDepth 20000 in
theorem gX3_at_X8_isOneOf_n26 : GoodIn wsX3_at (wsX8_isOneOf) := ggX3_at_X8_isOneOf
theorem dX3_at_0 : decode cX3_at 0 = .ok (.aload_n 0, 1) := by decide +kernel
theorem dX3_at_1 : decode cX3_at 1 = .ok (.iload_n 1, 1) := by decide +kernel
theorem dX3_at_2 : decode cX3_at 2 = .ok (.invokevirtual 22, 3) := by decide +kernel
theorem dX3_at_5 : decode cX3_at 5 = .ok (.ifCond .eq 24, 3) := by decide +kernel
theorem dX3_at_8 : decode cX3_at 8 = .ok (.iload_n 2, 1) := by decide +kernel
theorem dX3_at_9 : decode cX3_at 9 = .ok (.iconst 4, 1) := by decide +kernel
theorem dX3_at_10 : decode cX3_at 10 = .ok (.invokestatic 26, 3) := by decide +kernel
theorem dX3_at_13 : decode cX3_at 13 = .ok (.ifCond .eq 16, 3) := by decide +kernel
theorem dX3_at_16 : decode cX3_at 16 = .ok (.aload_n 0, 1) := by decide +kernel
theorem dX3_at_17 : decode cX3_at 17 = .ok (.getfield 15, 3) := by decide +kernel
theorem dX3_at_20 : decode cX3_at 20 = .ok (.iload_n 1, 1) := by decide +kernel
theorem dX3_at_21 : decode cX3_at 21 = .ok (.iconst 4, 1) := by decide +kernel
theorem dX3_at_22 : decode cX3_at 22 = .ok (.imul, 1) := by decide +kernel
theorem dX3_at_23 : decode cX3_at 23 = .ok (.iload_n 2, 1) := by decide +kernel
theorem dX3_at_24 : decode cX3_at 24 = .ok (.iadd, 1) := by decide +kernel
theorem dX3_at_25 : decode cX3_at 25 = .ok (.iaload, 1) := by decide +kernel
theorem dX3_at_26 : decode cX3_at 26 = .ok (.goto 5, 3) := by decide +kernel
theorem dX3_at_29 : decode cX3_at 29 = .ok (.bipush (-9), 2) := by decide +kernel
theorem dX3_at_31 : decode cX3_at 31 = .ok (.ireturn, 1) := by decide +kernel
set_option maxRecDepth 20000 in
theorem ggX3_set_X3_has : GoodIn wsX3_set wsX3_has := goodIn_r _ [6, 7, 11, 12, 13] (by decide +kernel) (by decide +kernel)
set_option maxRecDepth 20000 in
theorem gX3_set_X3_has : GoodIn wsX3_set (wsV RX3 22 RX3 yX3_has wsX3_has) := goodIn_app (goodIn_of _ (by decide +kernel)) ggX3_set_X3_has
set_option maxRecDepth 20000 in
theorem ggX3_set_X8_isOneOf : GoodIn wsX3_set wsX8_isOneOf := goodIn_r _ [10] (by decide +kernel) (by decide +kernel)
set_option maxRecDepth 20000 in
theorem gX3_set_X8_isOneOf_n26 : GoodIn wsX3_set (wsX8_isOneOf) := ggX3_set_X8_isOneOf
theorem dX3_set_0 : decode cX3_set 0 = .ok (.aload_n 0, 1) := by decide +kernel
theorem dX3_set_1 : decode cX3_set 1 = .ok (.iload_n 1, 1) := by decide +kernel
theorem dX3_set_2 : decode cX3_set 2 = .ok (.invokevirtual 22, 3) := by decide +kernel
theorem dX3_set_5 : decode cX3_set 5 = .ok (.ifCond .eq 22, 3) := by decide +kernel
theorem dX3_set_8 : decode cX3_set 8 = .ok (.iload_n 2, 1) := by decide +kernel
theorem dX3_set_9 : decode cX3_set 9 = .ok (.iconst 4, 1) := by decide +kernel
theorem dX3_set_10 : decode cX3_set 10 = .ok (.invokestatic 26, 3) := by decide +kernel
theorem dX3_set_13 : decode cX3_set 13 = .ok (.ifCond .eq 14, 3) := by decide +kernel
theorem dX3_set_16 : decode cX3_set 16 = .ok (.aload_n 0, 1) := by decide +kernel
theorem dX3_set_17 : decode cX3_set 17 = .ok (.getfield 15, 3) := by decide +kernel
theorem dX3_set_20 : decode cX3_set 20 = .ok (.iload_n 1, 1) := by decide +kernel
theorem dX3_set_21 : decode cX3_set 21 = .ok (.iconst 4, 1) := by decide +kernel
theorem dX3_set_22 : decode cX3_set 22 = .ok (.imul, 1) := by decide +kernel
theorem dX3_set_23 : decode cX3_set 23 = .ok (.iload_n 2, 1) := by decide +kernel
theorem dX3_set_24 : decode cX3_set 24 = .ok (.iadd, 1) := by decide +kernel
theorem dX3_set_25 : decode cX3_set 25 = .ok (.iload_n 3, 1) := by decide +kernel
theorem dX3_set_26 : decode cX3_set 26 = .ok (.iastore, 1) := by decide +kernel
theorem dX3_set_27 : decode cX3_set 27 = .ok (.return_, 1) := by decide +kernel
set_option maxRecDepth 20000 in
theorem ggX3_add_X3_set : GoodIn wsX3_add wsX3_set := goodIn_r _ [7, 8, 9, 10, 11, 6, 12, 1, 13, 14, 15, 16, 17, 18] (by decide +kernel) (by decide +kernel)
set_option maxRecDepth 20000 in
theorem gX3_add_X3_set : GoodIn wsX3_add (wsV RX3 30 RX3 yX3_set wsX3_set) := goodIn_app (goodIn_of _ (by decide +kernel)) ggX3_add_X3_set
theorem dX3_add_0 : decode cX3_add 0 = .ok (.aload_n 0, 1) := by decide +kernel
theorem dX3_add_1 : decode cX3_add 1 = .ok (.getfield 19, 3) := by decide +kernel
theorem dX3_add_4 : decode cX3_add 4 = .ok (.aload_n 0, 1) := by decide +kernel
theorem dX3_add_5 : decode cX3_add 5 = .ok (.getfield 9, 3) := by decide +kernel
theorem dX3_add_8 : decode cX3_add 8 = .ok (.if_icmp .lt 6, 3) := by decide +kernel
theorem dX3_add_11 : decode cX3_add 11 = .ok (.bipush (-4), 2) := by decide +kernel
theorem dX3_add_13 : decode cX3_add 13 = .ok (.ireturn, 1) := by decide +kernel
theorem dX3_add_14 : decode cX3_add 14 = .ok (.aload_n 0, 1) := by decide +kernel
theorem dX3_add_15 : decode cX3_add 15 = .ok (.dup, 1) := by decide +kernel
theorem dX3_add_16 : decode cX3_add 16 = .ok (.getfield 19, 3) := by decide +kernel
theorem dX3_add_19 : decode cX3_add 19 = .ok (.iconst 1, 1) := by decide +kernel
theorem dX3_add_20 : decode cX3_add 20 = .ok (.iadd, 1) := by decide +kernel
theorem dX3_add_21 : decode cX3_add 21 = .ok (.putfield 19, 3) := by decide +kernel
theorem dX3_add_24 : decode cX3_add 24 = .ok (.aload_n 0, 1) := by decide +kernel
theorem dX3_add_25 : decode cX3_add 25 = .ok (.aload_n 0, 1) := by decide +kernel
theorem dX3_add_26 : decode cX3_add 26 = .ok (.getfield 19, 3) := by decide +kernel
theorem dX3_add_29 : decode cX3_add 29 = .ok (.iconst 1, 1) := by decide +kernel
theorem dX3_add_30 : decode cX3_add 30 = .ok (.isub, 1) := by decide +kernel
theorem dX3_add_31 : decode cX3_add 31 = .ok (.iconst 0, 1) := by decide +kernel
theorem dX3_add_32 : decode cX3_add 32 = .ok (.iload_n 1, 1) := by decide +kernel
theorem dX3_add_33 : decode cX3_add 33 = .ok (.invokevirtual 30, 3) := by decide +kernel
theorem dX3_add_36 : decode cX3_add 36 = .ok (.aload_n 0, 1) := by decide +kernel
theorem dX3_add_37 : decode cX3_add 37 = .ok (.aload_n 0, 1) := by decide +kernel
theorem dX3_add_38 : decode cX3_add 38 = .ok (.getfield 19, 3) := by decide +kernel
theorem dX3_add_41 : decode cX3_add 41 = .ok (.iconst 1, 1) := by decide +kernel
theorem dX3_add_42 : decode cX3_add 42 = .ok (.isub, 1) := by decide +kernel
theorem dX3_add_43 : decode cX3_add 43 = .ok (.iconst 1, 1) := by decide +kernel
theorem dX3_add_44 : decode cX3_add 44 = .ok (.iload_n 2, 1) := by decide +kernel
theorem dX3_add_45 : decode cX3_add 45 = .ok (.invokevirtual 30, 3) := by decide +kernel
theorem dX3_add_48 : decode cX3_add 48 = .ok (.aload_n 0, 1) := by decide +kernel
theorem dX3_add_49 : decode cX3_add 49 = .ok (.aload_n 0, 1) := by decide +kernel
theorem dX3_add_50 : decode cX3_add 50 = .ok (.getfield 19, 3) := by decide +kernel
theorem dX3_add_53 : decode cX3_add 53 = .ok (.iconst 1, 1) := by decide +kernel
theorem dX3_add_54 : decode cX3_add 54 = .ok (.isub, 1) := by decide +kernel
theorem dX3_add_55 : decode cX3_add 55 = .ok (.iconst 2, 1) := by decide +kernel
theorem dX3_add_56 : decode cX3_add 56 = .ok (.iload_n 3, 1) := by decide +kernel
theorem dX3_add_57 : decode cX3_add 57 = .ok (.invokevirtual 30, 3) := by decide +kernel
theorem dX3_add_60 : decode cX3_add 60 = .ok (.aload_n 0, 1) := by decide +kernel
theorem dX3_add_61 : decode cX3_add 61 = .ok (.aload_n 0, 1) := by decide +kernel
theorem dX3_add_62 : decode cX3_add 62 = .ok (.getfield 19, 3) := by decide +kernel
theorem dX3_add_65 : decode cX3_add 65 = .ok (.iconst 1, 1) := by decide +kernel
theorem dX3_add_66 : decode cX3_add 66 = .ok (.isub, 1) := by decide +kernel
theorem dX3_add_67 : decode cX3_add 67 = .ok (.iconst 3, 1) := by decide +kernel
theorem dX3_add_68 : decode cX3_add 68 = .ok (.iload 4, 2) := by decide +kernel
theorem dX3_add_70 : decode cX3_add 70 = .ok (.invokevirtual 30, 3) := by decide +kernel
theorem dX3_add_73 : decode cX3_add 73 = .ok (.aload_n 0, 1) := by decide +kernel
theorem dX3_add_74 : decode cX3_add 74 = .ok (.getfield 19, 3) := by decide +kernel
theorem dX3_add_77 : decode cX3_add 77 = .ok (.iconst 1, 1) := by decide +kernel
theorem dX3_add_78 : decode cX3_add 78 = .ok (.isub, 1) := by decide +kernel
theorem dX3_add_79 : decode cX3_add 79 = .ok (.ireturn, 1) := by decide +kernel
theorem dX3_takeBack_0 : decode cX3_takeBack 0 = .ok (.iload_n 1, 1) := by decide +kernel
theorem dX3_takeBack_1 : decode cX3_takeBack 1 = .ok (.ifCond .lt 11, 3) := by decide +kernel
theorem dX3_takeBack_4 : decode cX3_takeBack 4 = .ok (.iload_n 1, 1) := by decide +kernel
theorem dX3_takeBack_5 : decode cX3_takeBack 5 = .ok (.aload_n 0, 1) := by decide +kernel
theorem dX3_takeBack_6 : decode cX3_takeBack 6 = .ok (.getfield 19, 3) := by decide +kernel
theorem dX3_takeBack_9 : decode cX3_takeBack 9 = .ok (.if_icmp .le 6, 3) := by decide +kernel
theorem dX3_takeBack_12 : decode cX3_takeBack 12 = .ok (.bipush (-2), 2) := by decide +kernel
theorem dX3_takeBack_14 : decode cX3_takeBack 14 = .ok (.ireturn, 1) := by decide +kernel
theorem dX3_takeBack_15 : decode cX3_takeBack 15 = .ok (.aload_n 0, 1) := by decide +kernel
theorem dX3_takeBack_16 : decode cX3_takeBack 16 = .ok (.dup, 1) := by decide +kernel
theorem dX3_takeBack_17 : decode cX3_takeBack 17 = .ok (.getfield 19, 3) := by decide +kernel
theorem dX3_takeBack_20 : decode cX3_takeBack 20 = .ok (.iload_n 1, 1) := by decide +kernel
theorem dX3_takeBack_21 : decode cX3_takeBack 21 = .ok (.isub, 1) := by decide +kernel
theorem dX3_takeBack_22 : decode cX3_takeBack 22 = .ok (.putfield 19, 3) := by decide +kernel
theorem dX3_takeBack_25 : decode cX3_takeBack 25 = .ok (.aload_n 0, 1) := by decide +kernel
theorem dX3_takeBack_26 : decode cX3_takeBack 26 = .ok (.getfield 19, 3) := by decide +kernel
theorem dX3_takeBack_29 : decode cX3_takeBack 29 = .ok (.ireturn, 1) := by decide +kernel
set_option maxRecDepth 20000 in
theorem ggX3_keepBelow_X3_at : GoodIn wsX3_keepBelow wsX3_at := goodIn_r _ [11, 2, 12, 13, 14, 10, 15, 1, 16, 17, 18, 19, 20, 21] (by decide +kernel) (by decide +kernel)
set_option maxRecDepth 20000 in
theorem gX3_keepBelow_X3_at : GoodIn wsX3_keepBelow (wsV RX3 34 RX3 yX3_at wsX3_at) := goodIn_app (goodIn_of _ (by decide +kernel)) ggX3_keepBelow_X3_at
theorem dX3_keepBelow_0 : decode cX3_keepBelow 0 = .ok (.iconst 0, 1) := by decide +kernel
theorem dX3_keepBelow_1 : decode cX3_keepBelow 1 = .ok (.istore_n 3, 1) := by decide +kernel
theorem dX3_keepBelow_2 : decode cX3_keepBelow 2 = .ok (.iconst 0, 1) := by decide +kernel
theorem dX3_keepBelow_3 : decode cX3_keepBelow 3 = .ok (.istore 4, 2) := by decide +kernel
theorem dX3_keepBelow_5 : decode cX3_keepBelow 5 = .ok (.iload 4, 2) := by decide +kernel
theorem dX3_keepBelow_7 : decode cX3_keepBelow 7 = .ok (.aload_n 0, 1) := by decide +kernel
theorem dX3_keepBelow_8 : decode cX3_keepBelow 8 = .ok (.getfield 19, 3) := by decide +kernel
theorem dX3_keepBelow_11 : decode cX3_keepBelow 11 = .ok (.if_icmp .ge 42, 3) := by decide +kernel
theorem dX3_keepBelow_14 : decode cX3_keepBelow 14 = .ok (.aload_n 0, 1) := by decide +kernel
theorem dX3_keepBelow_15 : decode cX3_keepBelow 15 = .ok (.iload 4, 2) := by decide +kernel
theorem dX3_keepBelow_17 : decode cX3_keepBelow 17 = .ok (.iload_n 1, 1) := by decide +kernel
theorem dX3_keepBelow_18 : decode cX3_keepBelow 18 = .ok (.invokevirtual 34, 3) := by decide +kernel
theorem dX3_keepBelow_21 : decode cX3_keepBelow 21 = .ok (.iload_n 2, 1) := by decide +kernel
theorem dX3_keepBelow_22 : decode cX3_keepBelow 22 = .ok (.if_icmp .ge 25, 3) := by decide +kernel
theorem dX3_keepBelow_25 : decode cX3_keepBelow 25 = .ok (.aload_n 0, 1) := by decide +kernel
theorem dX3_keepBelow_26 : decode cX3_keepBelow 26 = .ok (.getfield 15, 3) := by decide +kernel
theorem dX3_keepBelow_29 : decode cX3_keepBelow 29 = .ok (.iload 4, 2) := by decide +kernel
theorem dX3_keepBelow_31 : decode cX3_keepBelow 31 = .ok (.iconst 4, 1) := by decide +kernel
theorem dX3_keepBelow_32 : decode cX3_keepBelow 32 = .ok (.imul, 1) := by decide +kernel
theorem dX3_keepBelow_33 : decode cX3_keepBelow 33 = .ok (.aload_n 0, 1) := by decide +kernel
theorem dX3_keepBelow_34 : decode cX3_keepBelow 34 = .ok (.getfield 15, 3) := by decide +kernel
theorem dX3_keepBelow_37 : decode cX3_keepBelow 37 = .ok (.iload_n 3, 1) := by decide +kernel
theorem dX3_keepBelow_38 : decode cX3_keepBelow 38 = .ok (.iconst 4, 1) := by decide +kernel
theorem dX3_keepBelow_39 : decode cX3_keepBelow 39 = .ok (.imul, 1) := by decide +kernel
theorem dX3_keepBelow_40 : decode cX3_keepBelow 40 = .ok (.iconst 4, 1) := by decide +kernel
theorem dX3_keepBelow_41 : decode cX3_keepBelow 41 = .ok (.invokestatic 38, 3) := by decide +kernel
theorem dX3_keepBelow_44 : decode cX3_keepBelow 44 = .ok (.iinc 3 1, 3) := by decide +kernel
theorem dX3_keepBelow_47 : decode cX3_keepBelow 47 = .ok (.iinc 4 1, 3) := by decide +kernel
theorem dX3_keepBelow_50 : decode cX3_keepBelow 50 = .ok (.goto (-45), 3) := by decide +kernel
theorem dX3_keepBelow_53 : decode cX3_keepBelow 53 = .ok (.aload_n 0, 1) := by decide +kernel
theorem dX3_keepBelow_54 : decode cX3_keepBelow 54 = .ok (.iload_n 3, 1) := by decide +kernel
theorem dX3_keepBelow_55 : decode cX3_keepBelow 55 = .ok (.putfield 19, 3) := by decide +kernel
theorem dX3_keepBelow_58 : decode cX3_keepBelow 58 = .ok (.return_, 1) := by decide +kernel
theorem dX3_clear_0 : decode cX3_clear 0 = .ok (.aload_n 0, 1) := by decide +kernel
theorem dX3_clear_1 : decode cX3_clear 1 = .ok (.iconst 0, 1) := by decide +kernel
theorem dX3_clear_2 : decode cX3_clear 2 = .ok (.putfield 19, 3) := by decide +kernel
theorem dX3_clear_5 : decode cX3_clear 5 = .ok (.return_, 1) := by decide +kernel
theorem dX4_init_0 : decode cX4_init 0 = .ok (.aload_n 0, 1) := by decide +kernel
theorem dX4_init_1 : decode cX4_init 1 = .ok (.invokespecial 3, 3) := by decide +kernel
theorem dX4_init_4 : decode cX4_init 4 = .ok (.aload_n 0, 1) := by decide +kernel
theorem dX4_init_5 : decode cX4_init 5 = .ok (.bipush 6, 2) := by decide +kernel
theorem dX4_init_7 : decode cX4_init 7 = .ok (.newarray .int, 2) := by decide +kernel
theorem dX4_init_9 : decode cX4_init 9 = .ok (.putfield 9, 3) := by decide +kernel
theorem dX4_init_12 : decode cX4_init 12 = .ok (.aload_n 0, 1) := by decide +kernel
theorem dX4_init_13 : decode cX4_init 13 = .ok (.bipush 6, 2) := by decide +kernel
theorem dX4_init_15 : decode cX4_init 15 = .ok (.newarray .int, 2) := by decide +kernel
theorem dX4_init_17 : decode cX4_init 17 = .ok (.putfield 15, 3) := by decide +kernel
theorem dX4_init_20 : decode cX4_init 20 = .ok (.aload_n 0, 1) := by decide +kernel
theorem dX4_init_21 : decode cX4_init 21 = .ok (.bipush 6, 2) := by decide +kernel
theorem dX4_init_23 : decode cX4_init 23 = .ok (.newarray .int, 2) := by decide +kernel
theorem dX4_init_25 : decode cX4_init 25 = .ok (.putfield 18, 3) := by decide +kernel
theorem dX4_init_28 : decode cX4_init 28 = .ok (.aload_n 0, 1) := by decide +kernel
theorem dX4_init_29 : decode cX4_init 29 = .ok (.bipush 36, 2) := by decide +kernel
theorem dX4_init_31 : decode cX4_init 31 = .ok (.newarray .int, 2) := by decide +kernel
theorem dX4_init_33 : decode cX4_init 33 = .ok (.putfield 21, 3) := by decide +kernel
theorem dX4_init_36 : decode cX4_init 36 = .ok (.aload_n 0, 1) := by decide +kernel
theorem dX4_init_37 : decode cX4_init 37 = .ok (.bipush 18, 2) := by decide +kernel
theorem dX4_init_39 : decode cX4_init 39 = .ok (.newarray .int, 2) := by decide +kernel
theorem dX4_init_41 : decode cX4_init 41 = .ok (.putfield 24, 3) := by decide +kernel
theorem dX4_init_44 : decode cX4_init 44 = .ok (.aload_n 0, 1) := by decide +kernel
theorem dX4_init_45 : decode cX4_init 45 = .ok (.iconst 3, 1) := by decide +kernel
theorem dX4_init_46 : decode cX4_init 46 = .ok (.newarray .int, 2) := by decide +kernel
theorem dX4_init_48 : decode cX4_init 48 = .ok (.putfield 27, 3) := by decide +kernel
theorem dX4_init_51 : decode cX4_init 51 = .ok (.aload_n 0, 1) := by decide +kernel
theorem dX4_init_52 : decode cX4_init 52 = .ok (.aload_n 1, 1) := by decide +kernel
theorem dX4_init_53 : decode cX4_init 53 = .ok (.putfield 30, 3) := by decide +kernel
theorem dX4_init_56 : decode cX4_init 56 = .ok (.return_, 1) := by decide +kernel
set_option maxRecDepth 20000 in
theorem ggX4_begin_X6_person : GoodIn wsX4_begin wsX6_person := goodIn_r _ [12, 13, 14, 15, 16, 17, 54, 55, 56, 57, 58, 59, 60, 61] (by decide +kernel) (by decide +kernel)
set_option maxRecDepth 20000 in
theorem gX4_begin_X6_person_n49 : GoodIn wsX4_begin (wsX6_person) := ggX4_begin_X6_person
set_option maxRecDepth 20000 in
theorem ggX4_begin_X0_memory : GoodIn wsX4_begin wsX0_memory := goodIn_r _ [24, 25, 19, 26, 27, 28, 29, 30, 62, 63, 64, 65, 66, 67, 68, 69, 70] (by decide +kernel) (by decide +kernel)
set_option maxRecDepth 20000 in
theorem gX4_begin_X0_memory_u58X0 : GoodIn wsX4_begin (va_wsO RX4 58 RX0 "TaleBans$Herder" ⟨"TaleBans$Herder", "memory", "()I"⟩ yX0_memory wsX0_memory) := goodIn_app (goodIn_of _ (by decide +kernel)) ggX4_begin_X0_memory
set_option maxRecDepth 20000 in
theorem ggX4_begin_X1_memory : GoodIn wsX4_begin wsX1_memory := goodIn_r _ [34, 35, 36, 37, 22, 23, 24, 25, 19, 26, 27, 28, 29, 30, 62, 63, 64, 65, 66, 67, 68, 69, 70] (by decide +kernel) (by decide +kernel)
set_option maxRecDepth 20000 in
theorem gX4_begin_X1_memory_u58X1 : GoodIn wsX4_begin (va_wsO RX4 58 RX1 "TaleBans$Herder" ⟨"TaleBans$Herder", "memory", "()I"⟩ yX1_memory wsX1_memory) := goodIn_app (goodIn_of _ (by decide +kernel)) ggX4_begin_X1_memory
set_option maxRecDepth 20000 in
theorem ggX4_begin_X2_memory : GoodIn wsX4_begin wsX2_memory := goodIn_r _ [29, 30, 62, 63, 64, 65, 66, 67, 68, 69, 70] (by decide +kernel) (by decide +kernel)
set_option maxRecDepth 20000 in
theorem gX4_begin_X2_memory : GoodIn wsX4_begin (wsV RX4 58 RX2 yX2_memory wsX2_memory) := goodIn_app (goodIn_of _ (by decide +kernel)) ggX4_begin_X2_memory
set_option maxRecDepth 20000 in
theorem ggX4_begin_J7_fill_53178 : GoodIn wsX4_begin wsJ7_fill_53178 := goodIn_r _ [43] (by decide +kernel) (by decide +kernel)
set_option maxRecDepth 20000 in
theorem gX4_begin_J7_fill_53178 : GoodIn wsX4_begin (va_wsS RX4 62 yJ7_fill_53178 wsJ7_fill_53178) := goodIn_app (goodIn_of _ (by decide +kernel)) ggX4_begin_J7_fill_53178
theorem dX4_begin_0 : decode cX4_begin 0 = .ok (.aload_n 0, 1) := by decide +kernel
theorem dX4_begin_1 : decode cX4_begin 1 = .ok (.iload_n 1, 1) := by decide +kernel
theorem dX4_begin_2 : decode cX4_begin 2 = .ok (.putfield 34, 3) := by decide +kernel
theorem dX4_begin_5 : decode cX4_begin 5 = .ok (.aload_n 0, 1) := by decide +kernel
theorem dX4_begin_6 : decode cX4_begin 6 = .ok (.iload_n 2, 1) := by decide +kernel
theorem dX4_begin_7 : decode cX4_begin 7 = .ok (.putfield 38, 3) := by decide +kernel
theorem dX4_begin_10 : decode cX4_begin 10 = .ok (.aload_n 0, 1) := by decide +kernel
theorem dX4_begin_11 : decode cX4_begin 11 = .ok (.iconst (-1), 1) := by decide +kernel
theorem dX4_begin_12 : decode cX4_begin 12 = .ok (.putfield 41, 3) := by decide +kernel
theorem dX4_begin_15 : decode cX4_begin 15 = .ok (.iconst 0, 1) := by decide +kernel
theorem dX4_begin_16 : decode cX4_begin 16 = .ok (.istore_n 3, 1) := by decide +kernel
theorem dX4_begin_17 : decode cX4_begin 17 = .ok (.iload_n 3, 1) := by decide +kernel
theorem dX4_begin_18 : decode cX4_begin 18 = .ok (.aload_n 0, 1) := by decide +kernel
theorem dX4_begin_19 : decode cX4_begin 19 = .ok (.getfield 30, 3) := by decide +kernel
theorem dX4_begin_22 : decode cX4_begin 22 = .ok (.getfield 44, 3) := by decide +kernel
theorem dX4_begin_25 : decode cX4_begin 25 = .ok (.if_icmp .ge 60, 3) := by decide +kernel
theorem dX4_begin_28 : decode cX4_begin 28 = .ok (.aload_n 0, 1) := by decide +kernel
theorem dX4_begin_29 : decode cX4_begin 29 = .ok (.getfield 30, 3) := by decide +kernel
theorem dX4_begin_32 : decode cX4_begin 32 = .ok (.iload_n 3, 1) := by decide +kernel
theorem dX4_begin_33 : decode cX4_begin 33 = .ok (.invokevirtual 49, 3) := by decide +kernel
theorem dX4_begin_36 : decode cX4_begin 36 = .ok (.astore 4, 2) := by decide +kernel
theorem dX4_begin_38 : decode cX4_begin 38 = .ok (.aload_n 0, 1) := by decide +kernel
theorem dX4_begin_39 : decode cX4_begin 39 = .ok (.getfield 9, 3) := by decide +kernel
theorem dX4_begin_42 : decode cX4_begin 42 = .ok (.iload_n 3, 1) := by decide +kernel
theorem dX4_begin_43 : decode cX4_begin 43 = .ok (.aload 4, 2) := by decide +kernel
theorem dX4_begin_45 : decode cX4_begin 45 = .ok (.ifnonnull 8, 3) := by decide +kernel
theorem dX4_begin_48 : decode cX4_begin 48 = .ok (.bipush (-9), 2) := by decide +kernel
theorem dX4_begin_50 : decode cX4_begin 50 = .ok (.goto 8, 3) := by decide +kernel
theorem dX4_begin_53 : decode cX4_begin 53 = .ok (.aload 4, 2) := by decide +kernel
theorem dX4_begin_55 : decode cX4_begin 55 = .ok (.getfield 53, 3) := by decide +kernel
theorem dX4_begin_58 : decode cX4_begin 58 = .ok (.iastore, 1) := by decide +kernel
theorem dX4_begin_59 : decode cX4_begin 59 = .ok (.aload_n 0, 1) := by decide +kernel
theorem dX4_begin_60 : decode cX4_begin 60 = .ok (.getfield 15, 3) := by decide +kernel
theorem dX4_begin_63 : decode cX4_begin 63 = .ok (.iload_n 3, 1) := by decide +kernel
theorem dX4_begin_64 : decode cX4_begin 64 = .ok (.aload 4, 2) := by decide +kernel
theorem dX4_begin_66 : decode cX4_begin 66 = .ok (.ifnonnull 7, 3) := by decide +kernel
theorem dX4_begin_69 : decode cX4_begin 69 = .ok (.iconst 0, 1) := by decide +kernel
theorem dX4_begin_70 : decode cX4_begin 70 = .ok (.goto 8, 3) := by decide +kernel
theorem dX4_begin_73 : decode cX4_begin 73 = .ok (.aload 4, 2) := by decide +kernel
theorem dX4_begin_75 : decode cX4_begin 75 = .ok (.invokevirtual 58, 3) := by decide +kernel
theorem dX4_begin_78 : decode cX4_begin 78 = .ok (.iastore, 1) := by decide +kernel
theorem dX4_begin_79 : decode cX4_begin 79 = .ok (.iinc 3 1, 3) := by decide +kernel
theorem dX4_begin_82 : decode cX4_begin 82 = .ok (.goto (-65), 3) := by decide +kernel
theorem dX4_begin_85 : decode cX4_begin 85 = .ok (.aload_n 0, 1) := by decide +kernel
theorem dX4_begin_86 : decode cX4_begin 86 = .ok (.getfield 18, 3) := by decide +kernel
theorem dX4_begin_89 : decode cX4_begin 89 = .ok (.iconst 0, 1) := by decide +kernel
theorem dX4_begin_90 : decode cX4_begin 90 = .ok (.invokestatic 62, 3) := by decide +kernel
theorem dX4_begin_93 : decode cX4_begin 93 = .ok (.aload_n 0, 1) := by decide +kernel
theorem dX4_begin_94 : decode cX4_begin 94 = .ok (.getfield 24, 3) := by decide +kernel
theorem dX4_begin_97 : decode cX4_begin 97 = .ok (.iconst (-1), 1) := by decide +kernel
theorem dX4_begin_98 : decode cX4_begin 98 = .ok (.invokestatic 62, 3) := by decide +kernel
theorem dX4_begin_101 : decode cX4_begin 101 = .ok (.return_, 1) := by decide +kernel
set_option maxRecDepth 20000 in
theorem ggX4_pass_X4_forget : GoodIn wsX4_pass wsX4_forget := goodIn_r _ [6, 7, 8, 1, 9, 59, 60, 61, 62, 63, 64, 65, 66, 67, 68, 69, 70, 71, 72, 73, 74, 75, 76, 77, 78, 79] (by decide +kernel) (by decide +kernel)
set_option maxRecDepth 20000 in
theorem gX4_pass_X4_forget : GoodIn wsX4_pass (wsV RX4 68 RX4 yX4_forget wsX4_forget) := goodIn_app (goodIn_of _ (by decide +kernel)) ggX4_pass_X4_forget
set_option maxRecDepth 20000 in
theorem ggX4_pass_X4_makeMoves : GoodIn wsX4_pass wsX4_makeMoves := goodIn_r _ [13, 7, 1, 14, 15, 16, 17, 18, 19, 20, 21, 22, 23, 24, 25, 26, 27, 59, 60, 61, 62, 63, 64, 65, 66, 67, 68, 69, 70, 71, 72, 73, 74, 75, 76, 77, 78, 79] (by decide +kernel) (by decide +kernel)
set_option maxRecDepth 20000 in
theorem gX4_pass_X4_makeMoves : GoodIn wsX4_pass (wsV RX4 71 RX4 yX4_makeMoves wsX4_makeMoves) := goodIn_app (goodIn_of _ (by decide +kernel)) ggX4_pass_X4_makeMoves
set_option maxRecDepth 20000 in
theorem ggX4_pass_X4_bringTales : GoodIn wsX4_pass wsX4_bringTales := goodIn_r _ [31, 7, 1, 15, 16, 17, 18, 19, 20, 21, 22, 23, 24, 25, 26, 27, 32, 33, 34, 5, 35, 9, 8, 36, 59, 60, 61, 62, 63, 64, 65, 66, 67, 68, 69, 70, 71, 72, 73, 74, 75, 76, 77, 78, 79] (by decide +kernel) (by decide +kernel)
set_option maxRecDepth 20000 in
theorem gX4_pass_X4_bringTales : GoodIn wsX4_pass (wsV RX4 74 RX4 yX4_bringTales wsX4_bringTales) := goodIn_app (goodIn_of _ (by decide +kernel)) ggX4_pass_X4_bringTales
set_option maxRecDepth 20000 in
theorem ggX4_pass_X4_tellAt : GoodIn wsX4_pass wsX4_tellAt := goodIn_r _ [40, 41, 42, 1, 7, 14, 43, 44, 45, 46, 5, 47, 9, 48, 49, 50, 51, 52, 26, 53, 54, 55, 56, 57, 58, 32, 33, 34, 35, 8, 36, 25, 27, 59, 60, 61, 62, 63, 64, 65, 66, 67, 68, 69, 70, 71, 72, 73, 74, 75, 76, 77, 78, 79] (by decide +kernel) (by decide +kernel)
set_option maxRecDepth 20000 in
theorem gX4_pass_X4_tellAt : GoodIn wsX4_pass (wsV RX4 77 RX4 yX4_tellAt wsX4_tellAt) := goodIn_app (goodIn_of _ (by decide +kernel)) ggX4_pass_X4_tellAt
theorem dX4_pass_0 : decode cX4_pass 0 = .ok (.aload_n 0, 1) := by decide +kernel
theorem dX4_pass_1 : decode cX4_pass 1 = .ok (.dup, 1) := by decide +kernel
theorem dX4_pass_2 : decode cX4_pass 2 = .ok (.getfield 41, 3) := by decide +kernel
theorem dX4_pass_5 : decode cX4_pass 5 = .ok (.iconst 1, 1) := by decide +kernel
theorem dX4_pass_6 : decode cX4_pass 6 = .ok (.iadd, 1) := by decide +kernel
theorem dX4_pass_7 : decode cX4_pass 7 = .ok (.putfield 41, 3) := by decide +kernel
theorem dX4_pass_10 : decode cX4_pass 10 = .ok (.aload_n 0, 1) := by decide +kernel
theorem dX4_pass_11 : decode cX4_pass 11 = .ok (.invokevirtual 68, 3) := by decide +kernel
theorem dX4_pass_14 : decode cX4_pass 14 = .ok (.aload_n 0, 1) := by decide +kernel
theorem dX4_pass_15 : decode cX4_pass 15 = .ok (.invokevirtual 71, 3) := by decide +kernel
theorem dX4_pass_18 : decode cX4_pass 18 = .ok (.aload_n 0, 1) := by decide +kernel
theorem dX4_pass_19 : decode cX4_pass 19 = .ok (.invokevirtual 74, 3) := by decide +kernel
theorem dX4_pass_22 : decode cX4_pass 22 = .ok (.iconst 0, 1) := by decide +kernel
theorem dX4_pass_23 : decode cX4_pass 23 = .ok (.istore_n 1, 1) := by decide +kernel
theorem dX4_pass_24 : decode cX4_pass 24 = .ok (.iload_n 1, 1) := by decide +kernel
theorem dX4_pass_25 : decode cX4_pass 25 = .ok (.iconst 3, 1) := by decide +kernel
theorem dX4_pass_26 : decode cX4_pass 26 = .ok (.if_icmp .ge 14, 3) := by decide +kernel
theorem dX4_pass_29 : decode cX4_pass 29 = .ok (.aload_n 0, 1) := by decide +kernel
theorem dX4_pass_30 : decode cX4_pass 30 = .ok (.iload_n 1, 1) := by decide +kernel
theorem dX4_pass_31 : decode cX4_pass 31 = .ok (.invokevirtual 77, 3) := by decide +kernel
theorem dX4_pass_34 : decode cX4_pass 34 = .ok (.iinc 1 1, 3) := by decide +kernel
theorem dX4_pass_37 : decode cX4_pass 37 = .ok (.goto (-13), 3) := by decide +kernel
theorem dX4_pass_40 : decode cX4_pass 40 = .ok (.return_, 1) := by decide +kernel
theorem dX4_forget_0 : decode cX4_forget 0 = .ok (.iconst 0, 1) := by decide +kernel
theorem dX4_forget_1 : decode cX4_forget 1 = .ok (.istore_n 1, 1) := by decide +kernel
theorem dX4_forget_2 : decode cX4_forget 2 = .ok (.iload_n 1, 1) := by decide +kernel
theorem dX4_forget_3 : decode cX4_forget 3 = .ok (.aload_n 0, 1) := by decide +kernel
theorem dX4_forget_4 : decode cX4_forget 4 = .ok (.getfield 30, 3) := by decide +kernel
theorem dX4_forget_7 : decode cX4_forget 7 = .ok (.getfield 44, 3) := by decide +kernel
theorem dX4_forget_10 : decode cX4_forget 10 = .ok (.if_icmp .ge 63, 3) := by decide +kernel
theorem dX4_forget_13 : decode cX4_forget 13 = .ok (.iconst 0, 1) := by decide +kernel
theorem dX4_forget_14 : decode cX4_forget 14 = .ok (.istore_n 2, 1) := by decide +kernel
theorem dX4_forget_15 : decode cX4_forget 15 = .ok (.iload_n 2, 1) := by decide +kernel
theorem dX4_forget_16 : decode cX4_forget 16 = .ok (.aload_n 0, 1) := by decide +kernel
theorem dX4_forget_17 : decode cX4_forget 17 = .ok (.getfield 30, 3) := by decide +kernel
theorem dX4_forget_20 : decode cX4_forget 20 = .ok (.getfield 81, 3) := by decide +kernel
theorem dX4_forget_23 : decode cX4_forget 23 = .ok (.getfield 85, 3) := by decide +kernel
theorem dX4_forget_26 : decode cX4_forget 26 = .ok (.if_icmp .ge 41, 3) := by decide +kernel
theorem dX4_forget_29 : decode cX4_forget 29 = .ok (.aload_n 0, 1) := by decide +kernel
theorem dX4_forget_30 : decode cX4_forget 30 = .ok (.getfield 21, 3) := by decide +kernel
theorem dX4_forget_33 : decode cX4_forget 33 = .ok (.iload_n 1, 1) := by decide +kernel
theorem dX4_forget_34 : decode cX4_forget 34 = .ok (.bipush 6, 2) := by decide +kernel
theorem dX4_forget_36 : decode cX4_forget 36 = .ok (.imul, 1) := by decide +kernel
theorem dX4_forget_37 : decode cX4_forget 37 = .ok (.iload_n 2, 1) := by decide +kernel
theorem dX4_forget_38 : decode cX4_forget 38 = .ok (.iadd, 1) := by decide +kernel
theorem dX4_forget_39 : decode cX4_forget 39 = .ok (.iaload, 1) := by decide +kernel
theorem dX4_forget_40 : decode cX4_forget 40 = .ok (.aload_n 0, 1) := by decide +kernel
theorem dX4_forget_41 : decode cX4_forget 41 = .ok (.getfield 41, 3) := by decide +kernel
theorem dX4_forget_44 : decode cX4_forget 44 = .ok (.if_icmp .ge 17, 3) := by decide +kernel
theorem dX4_forget_47 : decode cX4_forget 47 = .ok (.aload_n 0, 1) := by decide +kernel
theorem dX4_forget_48 : decode cX4_forget 48 = .ok (.getfield 18, 3) := by decide +kernel
theorem dX4_forget_51 : decode cX4_forget 51 = .ok (.iload_n 1, 1) := by decide +kernel
theorem dX4_forget_52 : decode cX4_forget 52 = .ok (.dup2, 1) := by decide +kernel
theorem dX4_forget_53 : decode cX4_forget 53 = .ok (.iaload, 1) := by decide +kernel
theorem dX4_forget_54 : decode cX4_forget 54 = .ok (.iconst 1, 1) := by decide +kernel
theorem dX4_forget_55 : decode cX4_forget 55 = .ok (.iload_n 2, 1) := by decide +kernel
theorem dX4_forget_56 : decode cX4_forget 56 = .ok (.ishl, 1) := by decide +kernel
theorem dX4_forget_57 : decode cX4_forget 57 = .ok (.iconst (-1), 1) := by decide +kernel
theorem dX4_forget_58 : decode cX4_forget 58 = .ok (.ixor, 1) := by decide +kernel
theorem dX4_forget_59 : decode cX4_forget 59 = .ok (.iand, 1) := by decide +kernel
theorem dX4_forget_60 : decode cX4_forget 60 = .ok (.iastore, 1) := by decide +kernel
theorem dX4_forget_61 : decode cX4_forget 61 = .ok (.iinc 2 1, 3) := by decide +kernel
theorem dX4_forget_64 : decode cX4_forget 64 = .ok (.goto (-49), 3) := by decide +kernel
theorem dX4_forget_67 : decode cX4_forget 67 = .ok (.iinc 1 1, 3) := by decide +kernel
theorem dX4_forget_70 : decode cX4_forget 70 = .ok (.goto (-68), 3) := by decide +kernel
theorem dX4_forget_73 : decode cX4_forget 73 = .ok (.return_, 1) := by decide +kernel
set_option maxRecDepth 20000 in
theorem ggX4_makeMoves_X3_at : GoodIn wsX4_makeMoves wsX3_at := goodIn_r _ [7, 8, 9, 10, 11, 5, 12, 13, 14, 15, 16, 35, 36, 37] (by decide +kernel) (by decide +kernel)
set_option maxRecDepth 20000 in
theorem gX4_makeMoves_X3_at_n93 : GoodIn wsX4_makeMoves (wsX3_at) := ggX4_makeMoves_X3_at
set_option maxRecDepth 20000 in
theorem ggX4_makeMoves_X8_isOneOf : GoodIn wsX4_makeMoves wsX8_isOneOf := goodIn_r _ [16] (by decide +kernel) (by decide +kernel)
set_option maxRecDepth 20000 in
theorem gX4_makeMoves_X8_isOneOf_n97 : GoodIn wsX4_makeMoves (wsX8_isOneOf) := ggX4_makeMoves_X8_isOneOf
theorem dX4_makeMoves_0 : decode cX4_makeMoves 0 = .ok (.iconst 0, 1) := by decide +kernel
theorem dX4_makeMoves_1 : decode cX4_makeMoves 1 = .ok (.istore_n 1, 1) := by decide +kernel
theorem dX4_makeMoves_2 : decode cX4_makeMoves 2 = .ok (.iload_n 1, 1) := by decide +kernel
theorem dX4_makeMoves_3 : decode cX4_makeMoves 3 = .ok (.aload_n 0, 1) := by decide +kernel
theorem dX4_makeMoves_4 : decode cX4_makeMoves 4 = .ok (.getfield 30, 3) := by decide +kernel
theorem dX4_makeMoves_7 : decode cX4_makeMoves 7 = .ok (.getfield 90, 3) := by decide +kernel
theorem dX4_makeMoves_10 : decode cX4_makeMoves 10 = .ok (.getfield 85, 3) := by decide +kernel
theorem dX4_makeMoves_13 : decode cX4_makeMoves 13 = .ok (.if_icmp .ge 68, 3) := by decide +kernel
theorem dX4_makeMoves_16 : decode cX4_makeMoves 16 = .ok (.aload_n 0, 1) := by decide +kernel
theorem dX4_makeMoves_17 : decode cX4_makeMoves 17 = .ok (.getfield 30, 3) := by decide +kernel
theorem dX4_makeMoves_20 : decode cX4_makeMoves 20 = .ok (.getfield 90, 3) := by decide +kernel
theorem dX4_makeMoves_23 : decode cX4_makeMoves 23 = .ok (.iload_n 1, 1) := by decide +kernel
theorem dX4_makeMoves_24 : decode cX4_makeMoves 24 = .ok (.iconst 1, 1) := by decide +kernel
theorem dX4_makeMoves_25 : decode cX4_makeMoves 25 = .ok (.invokevirtual 93, 3) := by decide +kernel
theorem dX4_makeMoves_28 : decode cX4_makeMoves 28 = .ok (.aload_n 0, 1) := by decide +kernel
theorem dX4_makeMoves_29 : decode cX4_makeMoves 29 = .ok (.getfield 41, 3) := by decide +kernel
theorem dX4_makeMoves_32 : decode cX4_makeMoves 32 = .ok (.if_icmp .ne 43, 3) := by decide +kernel
theorem dX4_makeMoves_35 : decode cX4_makeMoves 35 = .ok (.aload_n 0, 1) := by decide +kernel
theorem dX4_makeMoves_36 : decode cX4_makeMoves 36 = .ok (.getfield 30, 3) := by decide +kernel
theorem dX4_makeMoves_39 : decode cX4_makeMoves 39 = .ok (.getfield 90, 3) := by decide +kernel
theorem dX4_makeMoves_42 : decode cX4_makeMoves 42 = .ok (.iload_n 1, 1) := by decide +kernel
theorem dX4_makeMoves_43 : decode cX4_makeMoves 43 = .ok (.iconst 0, 1) := by decide +kernel
theorem dX4_makeMoves_44 : decode cX4_makeMoves 44 = .ok (.invokevirtual 93, 3) := by decide +kernel
theorem dX4_makeMoves_47 : decode cX4_makeMoves 47 = .ok (.istore_n 2, 1) := by decide +kernel
theorem dX4_makeMoves_48 : decode cX4_makeMoves 48 = .ok (.iload_n 2, 1) := by decide +kernel
theorem dX4_makeMoves_49 : decode cX4_makeMoves 49 = .ok (.bipush 6, 2) := by decide +kernel
theorem dX4_makeMoves_51 : decode cX4_makeMoves 51 = .ok (.invokestatic 97, 3) := by decide +kernel
theorem dX4_makeMoves_54 : decode cX4_makeMoves 54 = .ok (.ifCond .eq 21, 3) := by decide +kernel
theorem dX4_makeMoves_57 : decode cX4_makeMoves 57 = .ok (.aload_n 0, 1) := by decide +kernel
theorem dX4_makeMoves_58 : decode cX4_makeMoves 58 = .ok (.getfield 9, 3) := by decide +kernel
theorem dX4_makeMoves_61 : decode cX4_makeMoves 61 = .ok (.iload_n 2, 1) := by decide +kernel
theorem dX4_makeMoves_62 : decode cX4_makeMoves 62 = .ok (.aload_n 0, 1) := by decide +kernel
theorem dX4_makeMoves_63 : decode cX4_makeMoves 63 = .ok (.getfield 30, 3) := by decide +kernel
theorem dX4_makeMoves_66 : decode cX4_makeMoves 66 = .ok (.getfield 90, 3) := by decide +kernel
theorem dX4_makeMoves_69 : decode cX4_makeMoves 69 = .ok (.iload_n 1, 1) := by decide +kernel
theorem dX4_makeMoves_70 : decode cX4_makeMoves 70 = .ok (.iconst 2, 1) := by decide +kernel
theorem dX4_makeMoves_71 : decode cX4_makeMoves 71 = .ok (.invokevirtual 93, 3) := by decide +kernel
theorem dX4_makeMoves_74 : decode cX4_makeMoves 74 = .ok (.iastore, 1) := by decide +kernel
theorem dX4_makeMoves_75 : decode cX4_makeMoves 75 = .ok (.iinc 1 1, 3) := by decide +kernel
theorem dX4_makeMoves_78 : decode cX4_makeMoves 78 = .ok (.goto (-76), 3) := by decide +kernel
theorem dX4_makeMoves_81 : decode cX4_makeMoves 81 = .ok (.return_, 1) := by decide +kernel
set_option maxRecDepth 20000 in
theorem ggX4_bringTales_X3_at : GoodIn wsX4_bringTales wsX3_at := goodIn_r _ [6, 7, 8, 9, 10, 4, 11, 12, 13, 14, 15, 42, 43, 44] (by decide +kernel) (by decide +kernel)
set_option maxRecDepth 20000 in
theorem gX4_bringTales_X3_at_n93 : GoodIn wsX4_bringTales (wsX3_at) := ggX4_bringTales_X3_at
set_option maxRecDepth 20000 in
theorem ggX4_bringTales_X4_hear : GoodIn wsX4_bringTales wsX4_hear := goodIn_r _ [20, 21, 22, 2, 23, 13, 14, 15, 24, 25, 26, 27, 28, 29, 30, 31, 32, 33] (by decide +kernel) (by decide +kernel)
set_option maxRecDepth 20000 in
theorem gX4_bringTales_X4_hear : GoodIn wsX4_bringTales (wsV RX4 101 RX4 yX4_hear wsX4_hear) := goodIn_app (goodIn_of _ (by decide +kernel)) ggX4_bringTales_X4_hear
theorem dX4_bringTales_0 : decode cX4_bringTales 0 = .ok (.iconst 0, 1) := by decide +kernel
theorem dX4_bringTales_1 : decode cX4_bringTales 1 = .ok (.istore_n 1, 1) := by decide +kernel
theorem dX4_bringTales_2 : decode cX4_bringTales 2 = .ok (.iload_n 1, 1) := by decide +kernel
theorem dX4_bringTales_3 : decode cX4_bringTales 3 = .ok (.aload_n 0, 1) := by decide +kernel
theorem dX4_bringTales_4 : decode cX4_bringTales 4 = .ok (.getfield 30, 3) := by decide +kernel
theorem dX4_bringTales_7 : decode cX4_bringTales 7 = .ok (.getfield 81, 3) := by decide +kernel
theorem dX4_bringTales_10 : decode cX4_bringTales 10 = .ok (.getfield 85, 3) := by decide +kernel
theorem dX4_bringTales_13 : decode cX4_bringTales 13 = .ok (.if_icmp .ge 45, 3) := by decide +kernel
theorem dX4_bringTales_16 : decode cX4_bringTales 16 = .ok (.aload_n 0, 1) := by decide +kernel
theorem dX4_bringTales_17 : decode cX4_bringTales 17 = .ok (.getfield 30, 3) := by decide +kernel
theorem dX4_bringTales_20 : decode cX4_bringTales 20 = .ok (.getfield 81, 3) := by decide +kernel
theorem dX4_bringTales_23 : decode cX4_bringTales 23 = .ok (.iload_n 1, 1) := by decide +kernel
theorem dX4_bringTales_24 : decode cX4_bringTales 24 = .ok (.iconst 1, 1) := by decide +kernel
theorem dX4_bringTales_25 : decode cX4_bringTales 25 = .ok (.invokevirtual 93, 3) := by decide +kernel
theorem dX4_bringTales_28 : decode cX4_bringTales 28 = .ok (.aload_n 0, 1) := by decide +kernel
theorem dX4_bringTales_29 : decode cX4_bringTales 29 = .ok (.getfield 41, 3) := by decide +kernel
theorem dX4_bringTales_32 : decode cX4_bringTales 32 = .ok (.if_icmp .ne 20, 3) := by decide +kernel
theorem dX4_bringTales_35 : decode cX4_bringTales 35 = .ok (.aload_n 0, 1) := by decide +kernel
theorem dX4_bringTales_36 : decode cX4_bringTales 36 = .ok (.aload_n 0, 1) := by decide +kernel
theorem dX4_bringTales_37 : decode cX4_bringTales 37 = .ok (.getfield 30, 3) := by decide +kernel
theorem dX4_bringTales_40 : decode cX4_bringTales 40 = .ok (.getfield 81, 3) := by decide +kernel
theorem dX4_bringTales_43 : decode cX4_bringTales 43 = .ok (.iload_n 1, 1) := by decide +kernel
theorem dX4_bringTales_44 : decode cX4_bringTales 44 = .ok (.iconst 0, 1) := by decide +kernel
theorem dX4_bringTales_45 : decode cX4_bringTales 45 = .ok (.invokevirtual 93, 3) := by decide +kernel
theorem dX4_bringTales_48 : decode cX4_bringTales 48 = .ok (.iload_n 1, 1) := by decide +kernel
theorem dX4_bringTales_49 : decode cX4_bringTales 49 = .ok (.invokevirtual 101, 3) := by decide +kernel
theorem dX4_bringTales_52 : decode cX4_bringTales 52 = .ok (.iinc 1 1, 3) := by decide +kernel
theorem dX4_bringTales_55 : decode cX4_bringTales 55 = .ok (.goto (-53), 3) := by decide +kernel
theorem dX4_bringTales_58 : decode cX4_bringTales 58 = .ok (.return_, 1) := by decide +kernel
set_option maxRecDepth 20000 in
theorem ggX4_hear_X8_isOneOf : GoodIn wsX4_hear wsX8_isOneOf := goodIn_r _ [7] (by decide +kernel) (by decide +kernel)
set_option maxRecDepth 20000 in
theorem gX4_hear_X8_isOneOf_n97 : GoodIn wsX4_hear (wsX8_isOneOf) := ggX4_hear_X8_isOneOf
theorem dX4_hear_0 : decode cX4_hear 0 = .ok (.iload_n 1, 1) := by decide +kernel
theorem dX4_hear_1 : decode cX4_hear 1 = .ok (.bipush 6, 2) := by decide +kernel
theorem dX4_hear_3 : decode cX4_hear 3 = .ok (.invokestatic 97, 3) := by decide +kernel
theorem dX4_hear_6 : decode cX4_hear 6 = .ok (.ifCond .eq 46, 3) := by decide +kernel
theorem dX4_hear_9 : decode cX4_hear 9 = .ok (.iload_n 2, 1) := by decide +kernel
theorem dX4_hear_10 : decode cX4_hear 10 = .ok (.bipush 6, 2) := by decide +kernel
theorem dX4_hear_12 : decode cX4_hear 12 = .ok (.invokestatic 97, 3) := by decide +kernel
theorem dX4_hear_15 : decode cX4_hear 15 = .ok (.ifCond .eq 37, 3) := by decide +kernel
theorem dX4_hear_18 : decode cX4_hear 18 = .ok (.aload_n 0, 1) := by decide +kernel
theorem dX4_hear_19 : decode cX4_hear 19 = .ok (.getfield 18, 3) := by decide +kernel
theorem dX4_hear_22 : decode cX4_hear 22 = .ok (.iload_n 1, 1) := by decide +kernel
theorem dX4_hear_23 : decode cX4_hear 23 = .ok (.dup2, 1) := by decide +kernel
theorem dX4_hear_24 : decode cX4_hear 24 = .ok (.iaload, 1) := by decide +kernel
theorem dX4_hear_25 : decode cX4_hear 25 = .ok (.iconst 1, 1) := by decide +kernel
theorem dX4_hear_26 : decode cX4_hear 26 = .ok (.iload_n 2, 1) := by decide +kernel
theorem dX4_hear_27 : decode cX4_hear 27 = .ok (.ishl, 1) := by decide +kernel
theorem dX4_hear_28 : decode cX4_hear 28 = .ok (.ior, 1) := by decide +kernel
theorem dX4_hear_29 : decode cX4_hear 29 = .ok (.iastore, 1) := by decide +kernel
theorem dX4_hear_30 : decode cX4_hear 30 = .ok (.aload_n 0, 1) := by decide +kernel
theorem dX4_hear_31 : decode cX4_hear 31 = .ok (.getfield 21, 3) := by decide +kernel
theorem dX4_hear_34 : decode cX4_hear 34 = .ok (.iload_n 1, 1) := by decide +kernel
theorem dX4_hear_35 : decode cX4_hear 35 = .ok (.bipush 6, 2) := by decide +kernel
theorem dX4_hear_37 : decode cX4_hear 37 = .ok (.imul, 1) := by decide +kernel
theorem dX4_hear_38 : decode cX4_hear 38 = .ok (.iload_n 2, 1) := by decide +kernel
theorem dX4_hear_39 : decode cX4_hear 39 = .ok (.iadd, 1) := by decide +kernel
theorem dX4_hear_40 : decode cX4_hear 40 = .ok (.aload_n 0, 1) := by decide +kernel
theorem dX4_hear_41 : decode cX4_hear 41 = .ok (.getfield 41, 3) := by decide +kernel
theorem dX4_hear_44 : decode cX4_hear 44 = .ok (.aload_n 0, 1) := by decide +kernel
theorem dX4_hear_45 : decode cX4_hear 45 = .ok (.getfield 15, 3) := by decide +kernel
theorem dX4_hear_48 : decode cX4_hear 48 = .ok (.iload_n 1, 1) := by decide +kernel
theorem dX4_hear_49 : decode cX4_hear 49 = .ok (.iaload, 1) := by decide +kernel
theorem dX4_hear_50 : decode cX4_hear 50 = .ok (.iadd, 1) := by decide +kernel
theorem dX4_hear_51 : decode cX4_hear 51 = .ok (.iastore, 1) := by decide +kernel
theorem dX4_hear_52 : decode cX4_hear 52 = .ok (.return_, 1) := by decide +kernel
set_option maxRecDepth 20000 in
theorem ggX4_tellAt_X4_knownAt : GoodIn wsX4_tellAt wsX4_knownAt := goodIn_r _ [11, 4, 5, 12, 33, 34, 35, 36, 37, 38, 39, 40, 41, 42, 43, 44, 45, 46, 47, 48, 49, 50] (by decide +kernel) (by decide +kernel)
set_option maxRecDepth 20000 in
theorem gX4_tellAt_X4_knownAt : GoodIn wsX4_tellAt (wsV RX4 105 RX4 yX4_knownAt wsX4_knownAt) := goodIn_app (goodIn_of _ (by decide +kernel)) ggX4_tellAt_X4_knownAt
set_option maxRecDepth 20000 in
theorem ggX4_tellAt_X4_chosen : GoodIn wsX4_tellAt wsX4_chosen := goodIn_r _ [16, 4, 17, 18, 19, 20, 21, 22, 10, 23, 24, 2, 33, 34, 35, 36, 37, 38, 39, 40, 41, 42, 43, 44, 45, 46, 47, 48, 49, 50, 51, 52, 53] (by decide +kernel) (by decide +kernel)
set_option maxRecDepth 20000 in
theorem gX4_tellAt_X4_chosen : GoodIn wsX4_tellAt (wsV RX4 109 RX4 yX4_chosen wsX4_chosen) := goodIn_app (goodIn_of _ (by decide +kernel)) ggX4_tellAt_X4_chosen
set_option maxRecDepth 20000 in
theorem ggX4_tellAt_X8_isIn : GoodIn wsX4_tellAt wsX8_isIn := goodIn_r _ [19] (by decide +kernel) (by decide +kernel)
set_option maxRecDepth 20000 in
theorem gX4_tellAt_X8_isIn_n112 : GoodIn wsX4_tellAt (wsX8_isIn) := ggX4_tellAt_X8_isIn
set_option maxRecDepth 20000 in
theorem ggX4_tellAt_X4_hear : GoodIn wsX4_tellAt wsX4_hear := goodIn_r _ [28, 12, 29, 3, 30, 31, 18, 32, 33, 34, 35, 36, 37, 38, 39, 40, 41, 42] (by decide +kernel) (by decide +kernel)
set_option maxRecDepth 20000 in
theorem gX4_tellAt_X4_hear : GoodIn wsX4_tellAt (wsV RX4 101 RX4 yX4_hear wsX4_hear) := goodIn_app (goodIn_of _ (by decide +kernel)) ggX4_tellAt_X4_hear
theorem dX4_tellAt_0 : decode cX4_tellAt 0 = .ok (.aload_n 0, 1) := by decide +kernel
theorem dX4_tellAt_1 : decode cX4_tellAt 1 = .ok (.iload_n 1, 1) := by decide +kernel
theorem dX4_tellAt_2 : decode cX4_tellAt 2 = .ok (.aload_n 0, 1) := by decide +kernel
theorem dX4_tellAt_3 : decode cX4_tellAt 3 = .ok (.iload_n 1, 1) := by decide +kernel
theorem dX4_tellAt_4 : decode cX4_tellAt 4 = .ok (.invokevirtual 105, 3) := by decide +kernel
theorem dX4_tellAt_7 : decode cX4_tellAt 7 = .ok (.invokevirtual 109, 3) := by decide +kernel
theorem dX4_tellAt_10 : decode cX4_tellAt 10 = .ok (.istore_n 2, 1) := by decide +kernel
theorem dX4_tellAt_11 : decode cX4_tellAt 11 = .ok (.aload_n 0, 1) := by decide +kernel
theorem dX4_tellAt_12 : decode cX4_tellAt 12 = .ok (.getfield 27, 3) := by decide +kernel
theorem dX4_tellAt_15 : decode cX4_tellAt 15 = .ok (.iload_n 1, 1) := by decide +kernel
theorem dX4_tellAt_16 : decode cX4_tellAt 16 = .ok (.iload_n 2, 1) := by decide +kernel
theorem dX4_tellAt_17 : decode cX4_tellAt 17 = .ok (.iastore, 1) := by decide +kernel
theorem dX4_tellAt_18 : decode cX4_tellAt 18 = .ok (.iload_n 2, 1) := by decide +kernel
theorem dX4_tellAt_19 : decode cX4_tellAt 19 = .ok (.bipush (-9), 2) := by decide +kernel
theorem dX4_tellAt_21 : decode cX4_tellAt 21 = .ok (.if_icmp .ne 4, 3) := by decide +kernel
theorem dX4_tellAt_24 : decode cX4_tellAt 24 = .ok (.return_, 1) := by decide +kernel
theorem dX4_tellAt_25 : decode cX4_tellAt 25 = .ok (.aload_n 0, 1) := by decide +kernel
theorem dX4_tellAt_26 : decode cX4_tellAt 26 = .ok (.getfield 24, 3) := by decide +kernel
theorem dX4_tellAt_29 : decode cX4_tellAt 29 = .ok (.iload_n 1, 1) := by decide +kernel
theorem dX4_tellAt_30 : decode cX4_tellAt 30 = .ok (.bipush 6, 2) := by decide +kernel
theorem dX4_tellAt_32 : decode cX4_tellAt 32 = .ok (.imul, 1) := by decide +kernel
theorem dX4_tellAt_33 : decode cX4_tellAt 33 = .ok (.iload_n 2, 1) := by decide +kernel
theorem dX4_tellAt_34 : decode cX4_tellAt 34 = .ok (.iadd, 1) := by decide +kernel
theorem dX4_tellAt_35 : decode cX4_tellAt 35 = .ok (.aload_n 0, 1) := by decide +kernel
theorem dX4_tellAt_36 : decode cX4_tellAt 36 = .ok (.getfield 41, 3) := by decide +kernel
theorem dX4_tellAt_39 : decode cX4_tellAt 39 = .ok (.iastore, 1) := by decide +kernel
theorem dX4_tellAt_40 : decode cX4_tellAt 40 = .ok (.iconst 0, 1) := by decide +kernel
theorem dX4_tellAt_41 : decode cX4_tellAt 41 = .ok (.istore_n 3, 1) := by decide +kernel
theorem dX4_tellAt_42 : decode cX4_tellAt 42 = .ok (.iload_n 3, 1) := by decide +kernel
theorem dX4_tellAt_43 : decode cX4_tellAt 43 = .ok (.aload_n 0, 1) := by decide +kernel
theorem dX4_tellAt_44 : decode cX4_tellAt 44 = .ok (.getfield 30, 3) := by decide +kernel
theorem dX4_tellAt_47 : decode cX4_tellAt 47 = .ok (.getfield 44, 3) := by decide +kernel
theorem dX4_tellAt_50 : decode cX4_tellAt 50 = .ok (.if_icmp .ge 36, 3) := by decide +kernel
theorem dX4_tellAt_53 : decode cX4_tellAt 53 = .ok (.aload_n 0, 1) := by decide +kernel
theorem dX4_tellAt_54 : decode cX4_tellAt 54 = .ok (.getfield 9, 3) := by decide +kernel
theorem dX4_tellAt_57 : decode cX4_tellAt 57 = .ok (.iload_n 3, 1) := by decide +kernel
theorem dX4_tellAt_58 : decode cX4_tellAt 58 = .ok (.iaload, 1) := by decide +kernel
theorem dX4_tellAt_59 : decode cX4_tellAt 59 = .ok (.iload_n 1, 1) := by decide +kernel
theorem dX4_tellAt_60 : decode cX4_tellAt 60 = .ok (.if_icmp .ne 20, 3) := by decide +kernel
theorem dX4_tellAt_63 : decode cX4_tellAt 63 = .ok (.iload_n 3, 1) := by decide +kernel
theorem dX4_tellAt_64 : decode cX4_tellAt 64 = .ok (.aload_n 0, 1) := by decide +kernel
theorem dX4_tellAt_65 : decode cX4_tellAt 65 = .ok (.getfield 34, 3) := by decide +kernel
theorem dX4_tellAt_68 : decode cX4_tellAt 68 = .ok (.invokestatic 112, 3) := by decide +kernel
theorem dX4_tellAt_71 : decode cX4_tellAt 71 = .ok (.ifCond .ne 9, 3) := by decide +kernel
theorem dX4_tellAt_74 : decode cX4_tellAt 74 = .ok (.aload_n 0, 1) := by decide +kernel
theorem dX4_tellAt_75 : decode cX4_tellAt 75 = .ok (.iload_n 3, 1) := by decide +kernel
theorem dX4_tellAt_76 : decode cX4_tellAt 76 = .ok (.iload_n 2, 1) := by decide +kernel
theorem dX4_tellAt_77 : decode cX4_tellAt 77 = .ok (.invokevirtual 101, 3) := by decide +kernel
theorem dX4_tellAt_80 : decode cX4_tellAt 80 = .ok (.iinc 3 1, 3) := by decide +kernel
theorem dX4_tellAt_83 : decode cX4_tellAt 83 = .ok (.goto (-41), 3) := by decide +kernel
theorem dX4_tellAt_86 : decode cX4_tellAt 86 = .ok (.return_, 1) := by decide +kernel
theorem dX4_knownAt_0 : decode cX4_knownAt 0 = .ok (.iconst 0, 1) := by decide +kernel
theorem dX4_knownAt_1 : decode cX4_knownAt 1 = .ok (.istore_n 2, 1) := by decide +kernel
theorem dX4_knownAt_2 : decode cX4_knownAt 2 = .ok (.iconst 0, 1) := by decide +kernel
theorem dX4_knownAt_3 : decode cX4_knownAt 3 = .ok (.istore_n 3, 1) := by decide +kernel
theorem dX4_knownAt_4 : decode cX4_knownAt 4 = .ok (.iload_n 3, 1) := by decide +kernel
theorem dX4_knownAt_5 : decode cX4_knownAt 5 = .ok (.aload_n 0, 1) := by decide +kernel
theorem dX4_knownAt_6 : decode cX4_knownAt 6 = .ok (.getfield 30, 3) := by decide +kernel
theorem dX4_knownAt_9 : decode cX4_knownAt 9 = .ok (.getfield 44, 3) := by decide +kernel
theorem dX4_knownAt_12 : decode cX4_knownAt 12 = .ok (.if_icmp .ge 28, 3) := by decide +kernel
theorem dX4_knownAt_15 : decode cX4_knownAt 15 = .ok (.aload_n 0, 1) := by decide +kernel
theorem dX4_knownAt_16 : decode cX4_knownAt 16 = .ok (.getfield 9, 3) := by decide +kernel
theorem dX4_knownAt_19 : decode cX4_knownAt 19 = .ok (.iload_n 3, 1) := by decide +kernel
theorem dX4_knownAt_20 : decode cX4_knownAt 20 = .ok (.iaload, 1) := by decide +kernel
theorem dX4_knownAt_21 : decode cX4_knownAt 21 = .ok (.iload_n 1, 1) := by decide +kernel
theorem dX4_knownAt_22 : decode cX4_knownAt 22 = .ok (.if_icmp .ne 12, 3) := by decide +kernel
theorem dX4_knownAt_25 : decode cX4_knownAt 25 = .ok (.iload_n 2, 1) := by decide +kernel
theorem dX4_knownAt_26 : decode cX4_knownAt 26 = .ok (.aload_n 0, 1) := by decide +kernel
theorem dX4_knownAt_27 : decode cX4_knownAt 27 = .ok (.getfield 18, 3) := by decide +kernel
theorem dX4_knownAt_30 : decode cX4_knownAt 30 = .ok (.iload_n 3, 1) := by decide +kernel
theorem dX4_knownAt_31 : decode cX4_knownAt 31 = .ok (.iaload, 1) := by decide +kernel
theorem dX4_knownAt_32 : decode cX4_knownAt 32 = .ok (.ior, 1) := by decide +kernel
theorem dX4_knownAt_33 : decode cX4_knownAt 33 = .ok (.istore_n 2, 1) := by decide +kernel
theorem dX4_knownAt_34 : decode cX4_knownAt 34 = .ok (.iinc 3 1, 3) := by decide +kernel
theorem dX4_knownAt_37 : decode cX4_knownAt 37 = .ok (.goto (-33), 3) := by decide +kernel
theorem dX4_knownAt_40 : decode cX4_knownAt 40 = .ok (.iload_n 2, 1) := by decide +kernel
theorem dX4_knownAt_41 : decode cX4_knownAt 41 = .ok (.ireturn, 1) := by decide +kernel
set_option maxRecDepth 20000 in
theorem ggX4_chosen_X8_isIn : GoodIn wsX4_chosen wsX8_isIn := goodIn_r _ [4] (by decide +kernel) (by decide +kernel)
set_option maxRecDepth 20000 in
theorem gX4_chosen_X8_isIn_n112 : GoodIn wsX4_chosen (wsX8_isIn) := ggX4_chosen_X8_isIn
set_option maxRecDepth 20000 in
theorem ggX4_chosen_X4_isRather : GoodIn wsX4_chosen wsX4_isRather := goodIn_r _ [9, 10, 11, 12, 13, 14, 15, 16, 17, 18, 19, 20, 21] (by decide +kernel) (by decide +kernel)
set_option maxRecDepth 20000 in
theorem gX4_chosen_X4_isRather : GoodIn wsX4_chosen (wsV RX4 115 RX4 yX4_isRather wsX4_isRather) := goodIn_app (goodIn_of _ (by decide +kernel)) ggX4_chosen_X4_isRather
theorem dX4_chosen_0 : decode cX4_chosen 0 = .ok (.bipush (-9), 2) := by decide +kernel
theorem dX4_chosen_2 : decode cX4_chosen 2 = .ok (.istore_n 3, 1) := by decide +kernel
theorem dX4_chosen_3 : decode cX4_chosen 3 = .ok (.iconst 0, 1) := by decide +kernel
theorem dX4_chosen_4 : decode cX4_chosen 4 = .ok (.istore 4, 2) := by decide +kernel
theorem dX4_chosen_6 : decode cX4_chosen 6 = .ok (.iload 4, 2) := by decide +kernel
theorem dX4_chosen_8 : decode cX4_chosen 8 = .ok (.aload_n 0, 1) := by decide +kernel
theorem dX4_chosen_9 : decode cX4_chosen 9 = .ok (.getfield 30, 3) := by decide +kernel
theorem dX4_chosen_12 : decode cX4_chosen 12 = .ok (.getfield 81, 3) := by decide +kernel
theorem dX4_chosen_15 : decode cX4_chosen 15 = .ok (.getfield 85, 3) := by decide +kernel
theorem dX4_chosen_18 : decode cX4_chosen 18 = .ok (.if_icmp .ge 38, 3) := by decide +kernel
theorem dX4_chosen_21 : decode cX4_chosen 21 = .ok (.iload 4, 2) := by decide +kernel
theorem dX4_chosen_23 : decode cX4_chosen 23 = .ok (.iload_n 2, 1) := by decide +kernel
theorem dX4_chosen_24 : decode cX4_chosen 24 = .ok (.invokestatic 112, 3) := by decide +kernel
theorem dX4_chosen_27 : decode cX4_chosen 27 = .ok (.ifCond .eq 23, 3) := by decide +kernel
theorem dX4_chosen_30 : decode cX4_chosen 30 = .ok (.iload_n 3, 1) := by decide +kernel
theorem dX4_chosen_31 : decode cX4_chosen 31 = .ok (.bipush (-9), 2) := by decide +kernel
theorem dX4_chosen_33 : decode cX4_chosen 33 = .ok (.if_icmp .eq 14, 3) := by decide +kernel
theorem dX4_chosen_36 : decode cX4_chosen 36 = .ok (.aload_n 0, 1) := by decide +kernel
theorem dX4_chosen_37 : decode cX4_chosen 37 = .ok (.iload_n 1, 1) := by decide +kernel
theorem dX4_chosen_38 : decode cX4_chosen 38 = .ok (.iload 4, 2) := by decide +kernel
theorem dX4_chosen_40 : decode cX4_chosen 40 = .ok (.iload_n 3, 1) := by decide +kernel
theorem dX4_chosen_41 : decode cX4_chosen 41 = .ok (.invokevirtual 115, 3) := by decide +kernel
theorem dX4_chosen_44 : decode cX4_chosen 44 = .ok (.ifCond .eq 6, 3) := by decide +kernel
theorem dX4_chosen_47 : decode cX4_chosen 47 = .ok (.iload 4, 2) := by decide +kernel
theorem dX4_chosen_49 : decode cX4_chosen 49 = .ok (.istore_n 3, 1) := by decide +kernel
theorem dX4_chosen_50 : decode cX4_chosen 50 = .ok (.iinc 4 1, 3) := by decide +kernel
theorem dX4_chosen_53 : decode cX4_chosen 53 = .ok (.goto (-47), 3) := by decide +kernel
theorem dX4_chosen_56 : decode cX4_chosen 56 = .ok (.iload_n 3, 1) := by decide +kernel
theorem dX4_chosen_57 : decode cX4_chosen 57 = .ok (.ireturn, 1) := by decide +kernel
theorem dX4_isRather_0 : decode cX4_isRather 0 = .ok (.aload_n 0, 1) := by decide +kernel
theorem dX4_isRather_1 : decode cX4_isRather 1 = .ok (.getfield 38, 3) := by decide +kernel
theorem dX4_isRather_4 : decode cX4_isRather 4 = .ok (.iconst 2, 1) := by decide +kernel
theorem dX4_isRather_5 : decode cX4_isRather 5 = .ok (.if_icmp .ne 34, 3) := by decide +kernel
theorem dX4_isRather_8 : decode cX4_isRather 8 = .ok (.aload_n 0, 1) := by decide +kernel
theorem dX4_isRather_9 : decode cX4_isRather 9 = .ok (.getfield 24, 3) := by decide +kernel
theorem dX4_isRather_12 : decode cX4_isRather 12 = .ok (.iload_n 1, 1) := by decide +kernel
theorem dX4_isRather_13 : decode cX4_isRather 13 = .ok (.bipush 6, 2) := by decide +kernel
theorem dX4_isRather_15 : decode cX4_isRather 15 = .ok (.imul, 1) := by decide +kernel
theorem dX4_isRather_16 : decode cX4_isRather 16 = .ok (.iload_n 2, 1) := by decide +kernel
theorem dX4_isRather_17 : decode cX4_isRather 17 = .ok (.iadd, 1) := by decide +kernel
theorem dX4_isRather_18 : decode cX4_isRather 18 = .ok (.iaload, 1) := by decide +kernel
theorem dX4_isRather_19 : decode cX4_isRather 19 = .ok (.aload_n 0, 1) := by decide +kernel
theorem dX4_isRather_20 : decode cX4_isRather 20 = .ok (.getfield 24, 3) := by decide +kernel
theorem dX4_isRather_23 : decode cX4_isRather 23 = .ok (.iload_n 1, 1) := by decide +kernel
theorem dX4_isRather_24 : decode cX4_isRather 24 = .ok (.bipush 6, 2) := by decide +kernel
theorem dX4_isRather_26 : decode cX4_isRather 26 = .ok (.imul, 1) := by decide +kernel
theorem dX4_isRather_27 : decode cX4_isRather 27 = .ok (.iload_n 3, 1) := by decide +kernel
theorem dX4_isRather_28 : decode cX4_isRather 28 = .ok (.iadd, 1) := by decide +kernel
theorem dX4_isRather_29 : decode cX4_isRather 29 = .ok (.iaload, 1) := by decide +kernel
theorem dX4_isRather_30 : decode cX4_isRather 30 = .ok (.if_icmp .ge 7, 3) := by decide +kernel
theorem dX4_isRather_33 : decode cX4_isRather 33 = .ok (.iconst 1, 1) := by decide +kernel
theorem dX4_isRather_34 : decode cX4_isRather 34 = .ok (.goto 4, 3) := by decide +kernel
theorem dX4_isRather_37 : decode cX4_isRather 37 = .ok (.iconst 0, 1) := by decide +kernel
theorem dX4_isRather_38 : decode cX4_isRather 38 = .ok (.ireturn, 1) := by decide +kernel
theorem dX4_isRather_39 : decode cX4_isRather 39 = .ok (.aload_n 0, 1) := by decide +kernel
theorem dX4_isRather_40 : decode cX4_isRather 40 = .ok (.getfield 38, 3) := by decide +kernel
theorem dX4_isRather_43 : decode cX4_isRather 43 = .ok (.ifCond .ne 7, 3) := by decide +kernel
theorem dX4_isRather_46 : decode cX4_isRather 46 = .ok (.iconst 1, 1) := by decide +kernel
theorem dX4_isRather_47 : decode cX4_isRather 47 = .ok (.goto 4, 3) := by decide +kernel
theorem dX4_isRather_50 : decode cX4_isRather 50 = .ok (.iconst 0, 1) := by decide +kernel
theorem dX4_isRather_51 : decode cX4_isRather 51 = .ok (.ireturn, 1) := by decide +kernel
set_option maxRecDepth 20000 in
theorem ggX4_talesOf_X8_isOneOf : GoodIn wsX4_talesOf wsX8_isOneOf := goodIn_r _ [4] (by decide +kernel) (by decide +kernel)
set_option maxRecDepth 20000 in
theorem gX4_talesOf_X8_isOneOf_n97 : GoodIn wsX4_talesOf (wsX8_isOneOf) := ggX4_talesOf_X8_isOneOf
theorem dX4_talesOf_0 : decode cX4_talesOf 0 = .ok (.iload_n 1, 1) := by decide +kernel
theorem dX4_talesOf_1 : decode cX4_talesOf 1 = .ok (.bipush 6, 2) := by decide +kernel
theorem dX4_talesOf_3 : decode cX4_talesOf 3 = .ok (.invokestatic 97, 3) := by decide +kernel
theorem dX4_talesOf_6 : decode cX4_talesOf 6 = .ok (.ifCond .eq 12, 3) := by decide +kernel
theorem dX4_talesOf_9 : decode cX4_talesOf 9 = .ok (.aload_n 0, 1) := by decide +kernel
theorem dX4_talesOf_10 : decode cX4_talesOf 10 = .ok (.getfield 18, 3) := by decide +kernel
theorem dX4_talesOf_13 : decode cX4_talesOf 13 = .ok (.iload_n 1, 1) := by decide +kernel
theorem dX4_talesOf_14 : decode cX4_talesOf 14 = .ok (.iaload, 1) := by decide +kernel
theorem dX4_talesOf_15 : decode cX4_talesOf 15 = .ok (.goto 4, 3) := by decide +kernel
theorem dX4_talesOf_18 : decode cX4_talesOf 18 = .ok (.iconst 0, 1) := by decide +kernel
theorem dX4_talesOf_19 : decode cX4_talesOf 19 = .ok (.ireturn, 1) := by decide +kernel
theorem dX4_talesOfAll_0 : decode cX4_talesOfAll 0 = .ok (.iconst 0, 1) := by decide +kernel
theorem dX4_talesOfAll_1 : decode cX4_talesOfAll 1 = .ok (.istore_n 1, 1) := by decide +kernel
theorem dX4_talesOfAll_2 : decode cX4_talesOfAll 2 = .ok (.iconst 0, 1) := by decide +kernel
theorem dX4_talesOfAll_3 : decode cX4_talesOfAll 3 = .ok (.istore_n 2, 1) := by decide +kernel
theorem dX4_talesOfAll_4 : decode cX4_talesOfAll 4 = .ok (.iload_n 2, 1) := by decide +kernel
theorem dX4_talesOfAll_5 : decode cX4_talesOfAll 5 = .ok (.aload_n 0, 1) := by decide +kernel
theorem dX4_talesOfAll_6 : decode cX4_talesOfAll 6 = .ok (.getfield 30, 3) := by decide +kernel
theorem dX4_talesOfAll_9 : decode cX4_talesOfAll 9 = .ok (.getfield 44, 3) := by decide +kernel
theorem dX4_talesOfAll_12 : decode cX4_talesOfAll 12 = .ok (.if_icmp .ge 18, 3) := by decide +kernel
theorem dX4_talesOfAll_15 : decode cX4_talesOfAll 15 = .ok (.iload_n 1, 1) := by decide +kernel
theorem dX4_talesOfAll_16 : decode cX4_talesOfAll 16 = .ok (.aload_n 0, 1) := by decide +kernel
theorem dX4_talesOfAll_17 : decode cX4_talesOfAll 17 = .ok (.getfield 18, 3) := by decide +kernel
theorem dX4_talesOfAll_20 : decode cX4_talesOfAll 20 = .ok (.iload_n 2, 1) := by decide +kernel
theorem dX4_talesOfAll_21 : decode cX4_talesOfAll 21 = .ok (.iaload, 1) := by decide +kernel
theorem dX4_talesOfAll_22 : decode cX4_talesOfAll 22 = .ok (.ior, 1) := by decide +kernel
theorem dX4_talesOfAll_23 : decode cX4_talesOfAll 23 = .ok (.istore_n 1, 1) := by decide +kernel
theorem dX4_talesOfAll_24 : decode cX4_talesOfAll 24 = .ok (.iinc 2 1, 3) := by decide +kernel
theorem dX4_talesOfAll_27 : decode cX4_talesOfAll 27 = .ok (.goto (-23), 3) := by decide +kernel
theorem dX4_talesOfAll_30 : decode cX4_talesOfAll 30 = .ok (.iload_n 1, 1) := by decide +kernel
theorem dX4_talesOfAll_31 : decode cX4_talesOfAll 31 = .ok (.ireturn, 1) := by decide +kernel
set_option maxRecDepth 20000 in
theorem ggX4_placeOf_X8_isOneOf : GoodIn wsX4_placeOf wsX8_isOneOf := goodIn_r _ [4] (by decide +kernel) (by decide +kernel)
set_option maxRecDepth 20000 in
theorem gX4_placeOf_X8_isOneOf_n97 : GoodIn wsX4_placeOf (wsX8_isOneOf) := ggX4_placeOf_X8_isOneOf
theorem dX4_placeOf_0 : decode cX4_placeOf 0 = .ok (.iload_n 1, 1) := by decide +kernel
theorem dX4_placeOf_1 : decode cX4_placeOf 1 = .ok (.bipush 6, 2) := by decide +kernel
theorem dX4_placeOf_3 : decode cX4_placeOf 3 = .ok (.invokestatic 97, 3) := by decide +kernel
theorem dX4_placeOf_6 : decode cX4_placeOf 6 = .ok (.ifCond .eq 12, 3) := by decide +kernel
theorem dX4_placeOf_9 : decode cX4_placeOf 9 = .ok (.aload_n 0, 1) := by decide +kernel
theorem dX4_placeOf_10 : decode cX4_placeOf 10 = .ok (.getfield 9, 3) := by decide +kernel
theorem dX4_placeOf_13 : decode cX4_placeOf 13 = .ok (.iload_n 1, 1) := by decide +kernel
theorem dX4_placeOf_14 : decode cX4_placeOf 14 = .ok (.iaload, 1) := by decide +kernel
theorem dX4_placeOf_15 : decode cX4_placeOf 15 = .ok (.goto 5, 3) := by decide +kernel
theorem dX4_placeOf_18 : decode cX4_placeOf 18 = .ok (.bipush (-9), 2) := by decide +kernel
theorem dX4_placeOf_20 : decode cX4_placeOf 20 = .ok (.ireturn, 1) := by decide +kernel
set_option maxRecDepth 20000 in
theorem ggX4_taleAt_X8_isOneOf : GoodIn wsX4_taleAt wsX8_isOneOf := goodIn_r _ [4] (by decide +kernel) (by decide +kernel)
set_option maxRecDepth 20000 in
theorem gX4_taleAt_X8_isOneOf_n97 : GoodIn wsX4_taleAt (wsX8_isOneOf) := ggX4_taleAt_X8_isOneOf
theorem dX4_taleAt_0 : decode cX4_taleAt 0 = .ok (.iload_n 1, 1) := by decide +kernel
theorem dX4_taleAt_1 : decode cX4_taleAt 1 = .ok (.iconst 3, 1) := by decide +kernel
theorem dX4_taleAt_2 : decode cX4_taleAt 2 = .ok (.invokestatic 97, 3) := by decide +kernel
theorem dX4_taleAt_5 : decode cX4_taleAt 5 = .ok (.ifCond .eq 12, 3) := by decide +kernel
theorem dX4_taleAt_8 : decode cX4_taleAt 8 = .ok (.aload_n 0, 1) := by decide +kernel
theorem dX4_taleAt_9 : decode cX4_taleAt 9 = .ok (.getfield 27, 3) := by decide +kernel
theorem dX4_taleAt_12 : decode cX4_taleAt 12 = .ok (.iload_n 1, 1) := by decide +kernel
theorem dX4_taleAt_13 : decode cX4_taleAt 13 = .ok (.iaload, 1) := by decide +kernel
theorem dX4_taleAt_14 : decode cX4_taleAt 14 = .ok (.goto 5, 3) := by decide +kernel
theorem dX4_taleAt_17 : decode cX4_taleAt 17 = .ok (.bipush (-9), 2) := by decide +kernel
theorem dX4_taleAt_19 : decode cX4_taleAt 19 = .ok (.ireturn, 1) := by decide +kernel
set_option maxRecDepth 20000 in
theorem ggX4_bannedDeeds_X4_talesOfAll : GoodIn wsX4_bannedDeeds wsX4_talesOfAll := goodIn_r _ [6, 1, 7, 28, 29, 30, 31, 32, 33, 34, 35, 36, 37, 38, 39, 40, 41, 42, 43, 44, 45] (by decide +kernel) (by decide +kernel)
set_option maxRecDepth 20000 in
theorem gX4_bannedDeeds_X4_talesOfAll : GoodIn wsX4_bannedDeeds (wsV RX4 119 RX4 yX4_talesOfAll wsX4_talesOfAll) := goodIn_app (goodIn_of _ (by decide +kernel)) ggX4_bannedDeeds_X4_talesOfAll
set_option maxRecDepth 20000 in
theorem ggX4_bannedDeeds_X8_isIn : GoodIn wsX4_bannedDeeds wsX8_isIn := goodIn_r _ [10] (by decide +kernel) (by decide +kernel)
set_option maxRecDepth 20000 in
theorem gX4_bannedDeeds_X8_isIn_n112 : GoodIn wsX4_bannedDeeds (wsX8_isIn) := ggX4_bannedDeeds_X8_isIn
set_option maxRecDepth 20000 in
theorem ggX4_bannedDeeds_X4_isLaughedAt : GoodIn wsX4_bannedDeeds wsX4_isLaughedAt := goodIn_r _ [14, 15, 1, 16, 17, 18, 19, 20, 21, 22, 23, 24, 25, 26, 9, 27, 28, 29, 30, 31, 32, 33, 34, 35, 36, 37, 38, 39, 40, 41, 42, 43, 44, 45, 46, 47, 48] (by decide +kernel) (by decide +kernel)
set_option maxRecDepth 20000 in
theorem gX4_bannedDeeds_X4_isLaughedAt : GoodIn wsX4_bannedDeeds (wsV RX4 122 RX4 yX4_isLaughedAt wsX4_isLaughedAt) := goodIn_app (goodIn_of _ (by decide +kernel)) ggX4_bannedDeeds_X4_isLaughedAt
set_option maxRecDepth 20000 in
theorem ggX4_bannedDeeds_X3_at : GoodIn wsX4_bannedDeeds wsX3_at := goodIn_r _ [19, 20, 21, 22, 23, 17, 24, 25, 26, 9, 27, 46, 47, 48] (by decide +kernel) (by decide +kernel)
set_option maxRecDepth 20000 in
theorem gX4_bannedDeeds_X3_at_n93 : GoodIn wsX4_bannedDeeds (wsX3_at) := ggX4_bannedDeeds_X3_at
theorem dX4_bannedDeeds_0 : decode cX4_bannedDeeds 0 = .ok (.aload_n 0, 1) := by decide +kernel
theorem dX4_bannedDeeds_1 : decode cX4_bannedDeeds 1 = .ok (.invokevirtual 119, 3) := by decide +kernel
theorem dX4_bannedDeeds_4 : decode cX4_bannedDeeds 4 = .ok (.istore_n 1, 1) := by decide +kernel
theorem dX4_bannedDeeds_5 : decode cX4_bannedDeeds 5 = .ok (.iconst 0, 1) := by decide +kernel
theorem dX4_bannedDeeds_6 : decode cX4_bannedDeeds 6 = .ok (.istore_n 2, 1) := by decide +kernel
theorem dX4_bannedDeeds_7 : decode cX4_bannedDeeds 7 = .ok (.iconst 0, 1) := by decide +kernel
theorem dX4_bannedDeeds_8 : decode cX4_bannedDeeds 8 = .ok (.istore_n 3, 1) := by decide +kernel
theorem dX4_bannedDeeds_9 : decode cX4_bannedDeeds 9 = .ok (.iload_n 3, 1) := by decide +kernel
theorem dX4_bannedDeeds_10 : decode cX4_bannedDeeds 10 = .ok (.aload_n 0, 1) := by decide +kernel
theorem dX4_bannedDeeds_11 : decode cX4_bannedDeeds 11 = .ok (.getfield 30, 3) := by decide +kernel
theorem dX4_bannedDeeds_14 : decode cX4_bannedDeeds 14 = .ok (.getfield 81, 3) := by decide +kernel
theorem dX4_bannedDeeds_17 : decode cX4_bannedDeeds 17 = .ok (.getfield 85, 3) := by decide +kernel
theorem dX4_bannedDeeds_20 : decode cX4_bannedDeeds 20 = .ok (.if_icmp .ge 42, 3) := by decide +kernel
theorem dX4_bannedDeeds_23 : decode cX4_bannedDeeds 23 = .ok (.iload_n 3, 1) := by decide +kernel
theorem dX4_bannedDeeds_24 : decode cX4_bannedDeeds 24 = .ok (.iload_n 1, 1) := by decide +kernel
theorem dX4_bannedDeeds_25 : decode cX4_bannedDeeds 25 = .ok (.invokestatic 112, 3) := by decide +kernel
theorem dX4_bannedDeeds_28 : decode cX4_bannedDeeds 28 = .ok (.ifCond .eq 28, 3) := by decide +kernel
theorem dX4_bannedDeeds_31 : decode cX4_bannedDeeds 31 = .ok (.aload_n 0, 1) := by decide +kernel
theorem dX4_bannedDeeds_32 : decode cX4_bannedDeeds 32 = .ok (.iload_n 3, 1) := by decide +kernel
theorem dX4_bannedDeeds_33 : decode cX4_bannedDeeds 33 = .ok (.invokevirtual 122, 3) := by decide +kernel
theorem dX4_bannedDeeds_36 : decode cX4_bannedDeeds 36 = .ok (.ifCond .ne 20, 3) := by decide +kernel
theorem dX4_bannedDeeds_39 : decode cX4_bannedDeeds 39 = .ok (.iload_n 2, 1) := by decide +kernel
theorem dX4_bannedDeeds_40 : decode cX4_bannedDeeds 40 = .ok (.iconst 1, 1) := by decide +kernel
theorem dX4_bannedDeeds_41 : decode cX4_bannedDeeds 41 = .ok (.aload_n 0, 1) := by decide +kernel
theorem dX4_bannedDeeds_42 : decode cX4_bannedDeeds 42 = .ok (.getfield 30, 3) := by decide +kernel
theorem dX4_bannedDeeds_45 : decode cX4_bannedDeeds 45 = .ok (.getfield 81, 3) := by decide +kernel
theorem dX4_bannedDeeds_48 : decode cX4_bannedDeeds 48 = .ok (.iload_n 3, 1) := by decide +kernel
theorem dX4_bannedDeeds_49 : decode cX4_bannedDeeds 49 = .ok (.iconst 2, 1) := by decide +kernel
theorem dX4_bannedDeeds_50 : decode cX4_bannedDeeds 50 = .ok (.invokevirtual 93, 3) := by decide +kernel
theorem dX4_bannedDeeds_53 : decode cX4_bannedDeeds 53 = .ok (.ishl, 1) := by decide +kernel
theorem dX4_bannedDeeds_54 : decode cX4_bannedDeeds 54 = .ok (.ior, 1) := by decide +kernel
theorem dX4_bannedDeeds_55 : decode cX4_bannedDeeds 55 = .ok (.istore_n 2, 1) := by decide +kernel
theorem dX4_bannedDeeds_56 : decode cX4_bannedDeeds 56 = .ok (.iinc 3 1, 3) := by decide +kernel
theorem dX4_bannedDeeds_59 : decode cX4_bannedDeeds 59 = .ok (.goto (-50), 3) := by decide +kernel
theorem dX4_bannedDeeds_62 : decode cX4_bannedDeeds 62 = .ok (.iload_n 2, 1) := by decide +kernel
theorem dX4_bannedDeeds_63 : decode cX4_bannedDeeds 63 = .ok (.ireturn, 1) := by decide +kernel
set_option maxRecDepth 20000 in
theorem ggX4_isBanned_X4_bannedDeeds : GoodIn wsX4_isBanned wsX4_bannedDeeds := goodIn_r _ [5, 6, 7, 8, 9, 4, 10, 11, 12, 13, 14, 15, 16, 17, 18, 19, 20, 21, 22, 23, 24, 25, 26, 27, 28, 29, 30, 31, 32, 33, 34, 35, 36, 37, 38, 39, 40, 41, 42, 43, 44, 45, 46, 47, 48, 49, 50, 51, 52] (by decide +kernel) (by decide +kernel)
set_option maxRecDepth 20000 in
theorem gX4_isBanned_X4_bannedDeeds : GoodIn wsX4_isBanned (wsV RX4 126 RX4 yX4_bannedDeeds wsX4_bannedDeeds) := goodIn_app (goodIn_of _ (by decide +kernel)) ggX4_isBanned_X4_bannedDeeds
set_option maxRecDepth 20000 in
theorem ggX4_isBanned_X8_isIn : GoodIn wsX4_isBanned wsX8_isIn := goodIn_r _ [14] (by decide +kernel) (by decide +kernel)
set_option maxRecDepth 20000 in
theorem gX4_isBanned_X8_isIn_n112 : GoodIn wsX4_isBanned (wsX8_isIn) := ggX4_isBanned_X8_isIn
theorem dX4_isBanned_0 : decode cX4_isBanned 0 = .ok (.iload_n 1, 1) := by decide +kernel
theorem dX4_isBanned_1 : decode cX4_isBanned 1 = .ok (.aload_n 0, 1) := by decide +kernel
theorem dX4_isBanned_2 : decode cX4_isBanned 2 = .ok (.invokevirtual 126, 3) := by decide +kernel
theorem dX4_isBanned_5 : decode cX4_isBanned 5 = .ok (.invokestatic 112, 3) := by decide +kernel
theorem dX4_isBanned_8 : decode cX4_isBanned 8 = .ok (.ireturn, 1) := by decide +kernel
set_option maxRecDepth 20000 in
theorem ggX4_isLaughedAt_X3_at : GoodIn wsX4_isLaughedAt wsX3_at := goodIn_r _ [6, 7, 8, 9, 10, 4, 11, 12, 13, 14, 15, 34, 35, 36] (by decide +kernel) (by decide +kernel)
set_option maxRecDepth 20000 in
theorem gX4_isLaughedAt_X3_at_n93 : GoodIn wsX4_isLaughedAt (wsX3_at) := ggX4_isLaughedAt_X3_at
theorem dX4_isLaughedAt_0 : decode cX4_isLaughedAt 0 = .ok (.aload_n 0, 1) := by decide +kernel
theorem dX4_isLaughedAt_1 : decode cX4_isLaughedAt 1 = .ok (.getfield 41, 3) := by decide +kernel
theorem dX4_isLaughedAt_4 : decode cX4_isLaughedAt 4 = .ok (.bipush 7, 2) := by decide +kernel
theorem dX4_isLaughedAt_6 : decode cX4_isLaughedAt 6 = .ok (.irem, 1) := by decide +kernel
theorem dX4_isLaughedAt_7 : decode cX4_isLaughedAt 7 = .ok (.bipush 6, 2) := by decide +kernel
theorem dX4_isLaughedAt_9 : decode cX4_isLaughedAt 9 = .ok (.if_icmp .ne 23, 3) := by decide +kernel
theorem dX4_isLaughedAt_12 : decode cX4_isLaughedAt 12 = .ok (.aload_n 0, 1) := by decide +kernel
theorem dX4_isLaughedAt_13 : decode cX4_isLaughedAt 13 = .ok (.getfield 30, 3) := by decide +kernel
theorem dX4_isLaughedAt_16 : decode cX4_isLaughedAt 16 = .ok (.getfield 81, 3) := by decide +kernel
theorem dX4_isLaughedAt_19 : decode cX4_isLaughedAt 19 = .ok (.iload_n 1, 1) := by decide +kernel
theorem dX4_isLaughedAt_20 : decode cX4_isLaughedAt 20 = .ok (.iconst 3, 1) := by decide +kernel
theorem dX4_isLaughedAt_21 : decode cX4_isLaughedAt 21 = .ok (.invokevirtual 93, 3) := by decide +kernel
theorem dX4_isLaughedAt_24 : decode cX4_isLaughedAt 24 = .ok (.iconst 1, 1) := by decide +kernel
theorem dX4_isLaughedAt_25 : decode cX4_isLaughedAt 25 = .ok (.if_icmp .ne 7, 3) := by decide +kernel
theorem dX4_isLaughedAt_28 : decode cX4_isLaughedAt 28 = .ok (.iconst 1, 1) := by decide +kernel
theorem dX4_isLaughedAt_29 : decode cX4_isLaughedAt 29 = .ok (.goto 4, 3) := by decide +kernel
theorem dX4_isLaughedAt_32 : decode cX4_isLaughedAt 32 = .ok (.iconst 0, 1) := by decide +kernel
theorem dX4_isLaughedAt_33 : decode cX4_isLaughedAt 33 = .ok (.ireturn, 1) := by decide +kernel
theorem dX5_init_0 : decode cX5_init 0 = .ok (.aload_n 0, 1) := by decide +kernel
theorem dX5_init_1 : decode cX5_init 1 = .ok (.invokespecial 3, 3) := by decide +kernel
theorem dX5_init_4 : decode cX5_init 4 = .ok (.aload_n 0, 1) := by decide +kernel
theorem dX5_init_5 : decode cX5_init 5 = .ok (.bipush 60, 2) := by decide +kernel
theorem dX5_init_7 : decode cX5_init 7 = .ok (.newarray .int, 2) := by decide +kernel
theorem dX5_init_9 : decode cX5_init 9 = .ok (.putfield 9, 3) := by decide +kernel
theorem dX5_init_12 : decode cX5_init 12 = .ok (.aload_n 0, 1) := by decide +kernel
theorem dX5_init_13 : decode cX5_init 13 = .ok (.iconst (-1), 1) := by decide +kernel
theorem dX5_init_14 : decode cX5_init 14 = .ok (.putfield 15, 3) := by decide +kernel
theorem dX5_init_17 : decode cX5_init 17 = .ok (.return_, 1) := by decide +kernel
theorem dX5_hasNothing_0 : decode cX5_hasNothing 0 = .ok (.aload_n 0, 1) := by decide +kernel
theorem dX5_hasNothing_1 : decode cX5_hasNothing 1 = .ok (.getfield 15, 3) := by decide +kernel
theorem dX5_hasNothing_4 : decode cX5_hasNothing 4 = .ok (.iconst (-1), 1) := by decide +kernel
theorem dX5_hasNothing_5 : decode cX5_hasNothing 5 = .ok (.if_icmp .ne 7, 3) := by decide +kernel
theorem dX5_hasNothing_8 : decode cX5_hasNothing 8 = .ok (.iconst 1, 1) := by decide +kernel
theorem dX5_hasNothing_9 : decode cX5_hasNothing 9 = .ok (.goto 4, 3) := by decide +kernel
theorem dX5_hasNothing_12 : decode cX5_hasNothing 12 = .ok (.iconst 0, 1) := by decide +kernel
theorem dX5_hasNothing_13 : decode cX5_hasNothing 13 = .ok (.ireturn, 1) := by decide +kernel
set_option maxRecDepth 20000 in
theorem ggX5_has_X8_isOneOf : GoodIn wsX5_has wsX8_isOneOf := goodIn_r _ [4] (by decide +kernel) (by decide +kernel)
set_option maxRecDepth 20000 in
theorem gX5_has_X8_isOneOf_n22 : GoodIn wsX5_has (wsX8_isOneOf) := ggX5_has_X8_isOneOf
theorem dX5_has_0 : decode cX5_has 0 = .ok (.iload_n 1, 1) := by decide +kernel
theorem dX5_has_1 : decode cX5_has 1 = .ok (.aload_n 0, 1) := by decide +kernel
theorem dX5_has_2 : decode cX5_has 2 = .ok (.getfield 19, 3) := by decide +kernel
theorem dX5_has_5 : decode cX5_has 5 = .ok (.invokestatic 22, 3) := by decide +kernel
theorem dX5_has_8 : decode cX5_has 8 = .ok (.ireturn, 1) := by decide +kernel
theorem dX5_reaches_0 : decode cX5_reaches 0 = .ok (.iload_n 1, 1) := by decide +kernel
theorem dX5_reaches_1 : decode cX5_reaches 1 = .ok (.ifCond .lt 21, 3) := by decide +kernel
theorem dX5_reaches_4 : decode cX5_reaches 4 = .ok (.iload_n 2, 1) := by decide +kernel
theorem dX5_reaches_5 : decode cX5_reaches 5 = .ok (.ifCond .lt 17, 3) := by decide +kernel
theorem dX5_reaches_8 : decode cX5_reaches 8 = .ok (.iload_n 1, 1) := by decide +kernel
theorem dX5_reaches_9 : decode cX5_reaches 9 = .ok (.aload_n 0, 1) := by decide +kernel
theorem dX5_reaches_10 : decode cX5_reaches 10 = .ok (.getfield 19, 3) := by decide +kernel
theorem dX5_reaches_13 : decode cX5_reaches 13 = .ok (.iload_n 2, 1) := by decide +kernel
theorem dX5_reaches_14 : decode cX5_reaches 14 = .ok (.isub, 1) := by decide +kernel
theorem dX5_reaches_15 : decode cX5_reaches 15 = .ok (.if_icmp .gt 7, 3) := by decide +kernel
theorem dX5_reaches_18 : decode cX5_reaches 18 = .ok (.iconst 1, 1) := by decide +kernel
theorem dX5_reaches_19 : decode cX5_reaches 19 = .ok (.goto 4, 3) := by decide +kernel
theorem dX5_reaches_22 : decode cX5_reaches 22 = .ok (.iconst 0, 1) := by decide +kernel
theorem dX5_reaches_23 : decode cX5_reaches 23 = .ok (.ireturn, 1) := by decide +kernel
set_option maxRecDepth 20000 in
theorem ggX5_renew_J7_fill_53178 : GoodIn wsX5_renew wsJ7_fill_53178 := goodIn_r _ [11] (by decide +kernel) (by decide +kernel)
set_option maxRecDepth 20000 in
theorem gX5_renew_J7_fill_53178 : GoodIn wsX5_renew (va_wsS RX5 32 yJ7_fill_53178 wsJ7_fill_53178) := goodIn_app (goodIn_of _ (by decide +kernel)) ggX5_renew_J7_fill_53178
theorem dX5_renew_0 : decode cX5_renew 0 = .ok (.aload_n 0, 1) := by decide +kernel
theorem dX5_renew_1 : decode cX5_renew 1 = .ok (.iload_n 1, 1) := by decide +kernel
theorem dX5_renew_2 : decode cX5_renew 2 = .ok (.putfield 15, 3) := by decide +kernel
theorem dX5_renew_5 : decode cX5_renew 5 = .ok (.aload_n 0, 1) := by decide +kernel
theorem dX5_renew_6 : decode cX5_renew 6 = .ok (.iload_n 2, 1) := by decide +kernel
theorem dX5_renew_7 : decode cX5_renew 7 = .ok (.bipush 60, 2) := by decide +kernel
theorem dX5_renew_9 : decode cX5_renew 9 = .ok (.invokestatic 26, 3) := by decide +kernel
theorem dX5_renew_12 : decode cX5_renew 12 = .ok (.putfield 19, 3) := by decide +kernel
