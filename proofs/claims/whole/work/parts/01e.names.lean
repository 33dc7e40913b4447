theorem dX8_tell_0 : decode cX8_tell 0 = .ok (.aload_n 0, 1) := by decide +kernel
theorem dX8_tell_1 : decode cX8_tell 1 = .ok (.getfield 27, 3) := by decide +kernel
theorem dX8_tell_4 : decode cX8_tell 4 = .ok (.iload_n 1, 1) := by decide +kernel
theorem dX8_tell_5 : decode cX8_tell 5 = .ok (.invokevirtual 72, 3) := by decide +kernel
theorem dX8_tell_8 : decode cX8_tell 8 = .ok (.astore_n 2, 1) := by decide +kernel
theorem dX8_tell_9 : decode cX8_tell 9 = .ok (.aload_n 2, 1) := by decide +kernel
theorem dX8_tell_10 : decode cX8_tell 10 = .ok (.ifnonnull 7, 3) := by decide +kernel
theorem dX8_tell_13 : decode cX8_tell 13 = .ok (.iconst (-1), 1) := by decide +kernel
theorem dX8_tell_14 : decode cX8_tell 14 = .ok (.goto 11, 3) := by decide +kernel
theorem dX8_tell_17 : decode cX8_tell 17 = .ok (.aload_n 2, 1) := by decide +kernel
theorem dX8_tell_18 : decode cX8_tell 18 = .ok (.aload_n 0, 1) := by decide +kernel
theorem dX8_tell_19 : decode cX8_tell 19 = .ok (.getfield 20, 3) := by decide +kernel
theorem dX8_tell_22 : decode cX8_tell 22 = .ok (.invokevirtual 227, 3) := by decide +kernel
theorem dX8_tell_25 : decode cX8_tell 25 = .ok (.ireturn, 1) := by decide +kernel
set_option maxRecDepth 20000 in
theorem ggX8_greet_X6_person : GoodIn wsX8_greet wsX6_person := goodIn_r _ [6, 7, 8, 9, 10, 11, 36, 37, 38, 39, 40, 41, 42, 43] (by decide +kernel) (by decide +kernel)
set_option maxRecDepth 20000 in
theorem gX8_greet_X6_person_n72 : GoodIn wsX8_greet (wsX6_person) := ggX8_greet_X6_person
set_option maxRecDepth 20000 in
theorem ggX8_greet_X2_greeting : GoodIn wsX8_greet wsX2_greeting := goodIn_r _ [17, 18, 19, 20, 21, 22, 23, 44, 45, 46, 47, 48, 49, 50, 51, 52, 53] (by decide +kernel) (by decide +kernel)
set_option maxRecDepth 20000 in
theorem gX8_greet_X2_greeting_u231X0 : GoodIn wsX8_greet (va_wsU RX8 231 RX0 "TaleBans$Herder" ⟨"TaleBans$Herder", "greeting", "(LTaleBans$Trace;)I"⟩ yX2_greeting wsX2_greeting) := goodIn_app (goodIn_of _ (by decide +kernel)) ggX8_greet_X2_greeting
set_option maxRecDepth 20000 in
theorem ggX8_greet_X1_greeting : GoodIn wsX8_greet wsX1_greeting := goodIn_r _ [28, 19, 20, 21, 22, 23, 53] (by decide +kernel) (by decide +kernel)
set_option maxRecDepth 20000 in
theorem gX8_greet_X1_greeting_u231X1 : GoodIn wsX8_greet (va_wsO RX8 231 RX1 "TaleBans$Herder" ⟨"TaleBans$Herder", "greeting", "(LTaleBans$Trace;)I"⟩ yX1_greeting wsX1_greeting) := goodIn_app (goodIn_of _ (by decide +kernel)) ggX8_greet_X1_greeting
set_option maxRecDepth 20000 in
theorem gX8_greet_X2_greeting : GoodIn wsX8_greet (wsV RX8 231 RX2 yX2_greeting wsX2_greeting) := goodIn_app (goodIn_of _ (by decide +kernel)) ggX8_greet_X2_greeting
theorem dX8_greet_0 : decode cX8_greet 0 = .ok (.aload_n 0, 1) := by decide +kernel
theorem dX8_greet_1 : decode cX8_greet 1 = .ok (.getfield 27, 3) := by decide +kernel
theorem dX8_greet_4 : decode cX8_greet 4 = .ok (.iload_n 1, 1) := by decide +kernel
theorem dX8_greet_5 : decode cX8_greet 5 = .ok (.invokevirtual 72, 3) := by decide +kernel
theorem dX8_greet_8 : decode cX8_greet 8 = .ok (.astore_n 2, 1) := by decide +kernel
theorem dX8_greet_9 : decode cX8_greet 9 = .ok (.aload_n 2, 1) := by decide +kernel
theorem dX8_greet_10 : decode cX8_greet 10 = .ok (.ifnonnull 7, 3) := by decide +kernel
theorem dX8_greet_13 : decode cX8_greet 13 = .ok (.iconst (-1), 1) := by decide +kernel
theorem dX8_greet_14 : decode cX8_greet 14 = .ok (.goto 11, 3) := by decide +kernel
theorem dX8_greet_17 : decode cX8_greet 17 = .ok (.aload_n 2, 1) := by decide +kernel
theorem dX8_greet_18 : decode cX8_greet 18 = .ok (.aload_n 0, 1) := by decide +kernel
theorem dX8_greet_19 : decode cX8_greet 19 = .ok (.getfield 20, 3) := by decide +kernel
theorem dX8_greet_22 : decode cX8_greet 22 = .ok (.invokevirtual 231, 3) := by decide +kernel
theorem dX8_greet_25 : decode cX8_greet 25 = .ok (.ireturn, 1) := by decide +kernel
set_option maxRecDepth 20000 in
theorem ggX8_as_X6_person : GoodIn wsX8_as wsX6_person := goodIn_r _ [6, 7, 8, 9, 10, 11, 38, 39, 40, 41, 42, 43, 44, 45] (by decide +kernel) (by decide +kernel)
set_option maxRecDepth 20000 in
theorem gX8_as_X6_person_n72 : GoodIn wsX8_as (wsX6_person) := ggX8_as_X6_person
set_option maxRecDepth 20000 in
theorem ggX8_as_X8_isOneOf : GoodIn wsX8_as wsX8_isOneOf := goodIn_r _ [11] (by decide +kernel) (by decide +kernel)
set_option maxRecDepth 20000 in
theorem gX8_as_X8_isOneOf : GoodIn wsX8_as (va_wsS RX8 49 yX8_isOneOf wsX8_isOneOf) := goodIn_app (goodIn_of _ (by decide +kernel)) ggX8_as_X8_isOneOf
set_option maxRecDepth 20000 in
theorem ggX8_as_X0_kind : GoodIn wsX8_as wsX0_kind := goodIn_r _ [19] (by decide +kernel) (by decide +kernel)
set_option maxRecDepth 20000 in
theorem gX8_as_X0_kind_u76X0 : GoodIn wsX8_as (va_wsO RX8 76 RX0 "TaleBans$Herder" ⟨"TaleBans$Herder", "kind", "()I"⟩ yX0_kind wsX0_kind) := goodIn_app (goodIn_of _ (by decide +kernel)) ggX8_as_X0_kind
set_option maxRecDepth 20000 in
theorem ggX8_as_X1_kind : GoodIn wsX8_as wsX1_kind := goodIn_r _ [24] (by decide +kernel) (by decide +kernel)
set_option maxRecDepth 20000 in
theorem gX8_as_X1_kind_u76X1 : GoodIn wsX8_as (va_wsO RX8 76 RX1 "TaleBans$Herder" ⟨"TaleBans$Herder", "kind", "()I"⟩ yX1_kind wsX1_kind) := goodIn_app (goodIn_of _ (by decide +kernel)) ggX8_as_X1_kind
set_option maxRecDepth 20000 in
theorem ggX8_as_X2_kind : GoodIn wsX8_as wsX2_kind := goodIn_r _ [20] (by decide +kernel) (by decide +kernel)
set_option maxRecDepth 20000 in
theorem gX8_as_X2_kind : GoodIn wsX8_as (wsV RX8 76 RX2 yX2_kind wsX2_kind) := goodIn_app (goodIn_of _ (by decide +kernel)) ggX8_as_X2_kind
set_option maxRecDepth 20000 in
theorem ggX8_as_X8_faulted : GoodIn wsX8_as wsX8_faulted := goodIn_r _ [32, 1, 33, 34, 35, 36, 37] (by decide +kernel) (by decide +kernel)
set_option maxRecDepth 20000 in
theorem gX8_as_X8_faulted : GoodIn wsX8_as (wsV RX8 57 RX8 yX8_faulted wsX8_faulted) := goodIn_app (goodIn_of _ (by decide +kernel)) ggX8_as_X8_faulted
theorem dX8_as_0 : decode cX8_as 0 = .ok (.aload_n 0, 1) := by decide +kernel
theorem dX8_as_1 : decode cX8_as 1 = .ok (.iconst 0, 1) := by decide +kernel
theorem dX8_as_2 : decode cX8_as 2 = .ok (.putfield 41, 3) := by decide +kernel
theorem dX8_as_5 : decode cX8_as 5 = .ok (.aload_n 0, 1) := by decide +kernel
theorem dX8_as_6 : decode cX8_as 6 = .ok (.getfield 27, 3) := by decide +kernel
theorem dX8_as_9 : decode cX8_as 9 = .ok (.iload_n 1, 1) := by decide +kernel
theorem dX8_as_10 : decode cX8_as 10 = .ok (.invokevirtual 72, 3) := by decide +kernel
theorem dX8_as_13 : decode cX8_as 13 = .ok (.astore_n 3, 1) := by decide +kernel
theorem dX8_as_14 : decode cX8_as 14 = .ok (.aload_n 3, 1) := by decide +kernel
theorem dX8_as_15 : decode cX8_as 15 = .ok (.ifnonnull 5, 3) := by decide +kernel
theorem dX8_as_18 : decode cX8_as 18 = .ok (.iconst (-1), 1) := by decide +kernel
theorem dX8_as_19 : decode cX8_as 19 = .ok (.ireturn, 1) := by decide +kernel
theorem dX8_as_20 : decode cX8_as 20 = .ok (.iload_n 2, 1) := by decide +kernel
theorem dX8_as_21 : decode cX8_as 21 = .ok (.iconst 3, 1) := by decide +kernel
theorem dX8_as_22 : decode cX8_as 22 = .ok (.invokestatic 49, 3) := by decide +kernel
theorem dX8_as_25 : decode cX8_as 25 = .ok (.ifCond .ne 6, 3) := by decide +kernel
theorem dX8_as_28 : decode cX8_as 28 = .ok (.bipush (-2), 2) := by decide +kernel
theorem dX8_as_30 : decode cX8_as 30 = .ok (.ireturn, 1) := by decide +kernel
theorem dX8_as_31 : decode cX8_as 31 = .ok (.aload_n 3, 1) := by decide +kernel
theorem dX8_as_32 : decode cX8_as 32 = .ok (.invokevirtual 76, 3) := by decide +kernel
theorem dX8_as_35 : decode cX8_as 35 = .ok (.iload_n 2, 1) := by decide +kernel
theorem dX8_as_36 : decode cX8_as 36 = .ok (.if_icmp .ge 11, 3) := by decide +kernel
theorem dX8_as_39 : decode cX8_as 39 = .ok (.aload_n 0, 1) := by decide +kernel
theorem dX8_as_40 : decode cX8_as 40 = .ok (.iconst 2, 1) := by decide +kernel
theorem dX8_as_41 : decode cX8_as 41 = .ok (.invokevirtual 57, 3) := by decide +kernel
theorem dX8_as_44 : decode cX8_as 44 = .ok (.goto 4, 3) := by decide +kernel
theorem dX8_as_47 : decode cX8_as 47 = .ok (.iconst 1, 1) := by decide +kernel
theorem dX8_as_48 : decode cX8_as 48 = .ok (.ireturn, 1) := by decide +kernel
theorem dX8_trace_0 : decode cX8_trace 0 = .ok (.aload_n 0, 1) := by decide +kernel
theorem dX8_trace_1 : decode cX8_trace 1 = .ok (.getfield 20, 3) := by decide +kernel
theorem dX8_trace_4 : decode cX8_trace 4 = .ok (.getfield 234, 3) := by decide +kernel
theorem dX8_trace_7 : decode cX8_trace 7 = .ok (.ireturn, 1) := by decide +kernel
theorem dX8_fault_0 : decode cX8_fault 0 = .ok (.aload_n 0, 1) := by decide +kernel
theorem dX8_fault_1 : decode cX8_fault 1 = .ok (.getfield 41, 3) := by decide +kernel
theorem dX8_fault_4 : decode cX8_fault 4 = .ok (.ireturn, 1) := by decide +kernel
theorem dX8_many_0 : decode cX8_many 0 = .ok (.iload_n 1, 1) := by decide +kernel
theorem dX8_many_1 : decode cX8_many 1 = .ok (.tableswitch 99 0 5 #[39, 47, 58, 69, 80, 91], 39) := by decide +kernel
theorem dX8_many_40 : decode cX8_many 40 = .ok (.aload_n 0, 1) := by decide +kernel
theorem dX8_many_41 : decode cX8_many 41 = .ok (.getfield 27, 3) := by decide +kernel
theorem dX8_many_44 : decode cX8_many 44 = .ok (.getfield 69, 3) := by decide +kernel
theorem dX8_many_47 : decode cX8_many 47 = .ok (.ireturn, 1) := by decide +kernel
theorem dX8_many_48 : decode cX8_many 48 = .ok (.aload_n 0, 1) := by decide +kernel
theorem dX8_many_49 : decode cX8_many 49 = .ok (.getfield 27, 3) := by decide +kernel
theorem dX8_many_52 : decode cX8_many 52 = .ok (.getfield 101, 3) := by decide +kernel
theorem dX8_many_55 : decode cX8_many 55 = .ok (.getfield 237, 3) := by decide +kernel
theorem dX8_many_58 : decode cX8_many 58 = .ok (.ireturn, 1) := by decide +kernel
theorem dX8_many_59 : decode cX8_many 59 = .ok (.aload_n 0, 1) := by decide +kernel
theorem dX8_many_60 : decode cX8_many 60 = .ok (.getfield 27, 3) := by decide +kernel
theorem dX8_many_63 : decode cX8_many 63 = .ok (.getfield 121, 3) := by decide +kernel
theorem dX8_many_66 : decode cX8_many 66 = .ok (.getfield 237, 3) := by decide +kernel
theorem dX8_many_69 : decode cX8_many 69 = .ok (.ireturn, 1) := by decide +kernel
theorem dX8_many_70 : decode cX8_many 70 = .ok (.aload_n 0, 1) := by decide +kernel
theorem dX8_many_71 : decode cX8_many 71 = .ok (.getfield 27, 3) := by decide +kernel
theorem dX8_many_74 : decode cX8_many 74 = .ok (.getfield 179, 3) := by decide +kernel
theorem dX8_many_77 : decode cX8_many 77 = .ok (.getfield 237, 3) := by decide +kernel
theorem dX8_many_80 : decode cX8_many 80 = .ok (.ireturn, 1) := by decide +kernel
theorem dX8_many_81 : decode cX8_many 81 = .ok (.aload_n 0, 1) := by decide +kernel
theorem dX8_many_82 : decode cX8_many 82 = .ok (.getfield 27, 3) := by decide +kernel
theorem dX8_many_85 : decode cX8_many 85 = .ok (.getfield 114, 3) := by decide +kernel
theorem dX8_many_88 : decode cX8_many 88 = .ok (.getfield 237, 3) := by decide +kernel
theorem dX8_many_91 : decode cX8_many 91 = .ok (.ireturn, 1) := by decide +kernel
theorem dX8_many_92 : decode cX8_many 92 = .ok (.aload_n 0, 1) := by decide +kernel
theorem dX8_many_93 : decode cX8_many 93 = .ok (.getfield 27, 3) := by decide +kernel
theorem dX8_many_96 : decode cX8_many 96 = .ok (.getfield 128, 3) := by decide +kernel
theorem dX8_many_99 : decode cX8_many 99 = .ok (.ireturn, 1) := by decide +kernel
theorem dX8_many_100 : decode cX8_many 100 = .ok (.bipush (-2), 2) := by decide +kernel
theorem dX8_many_102 : decode cX8_many 102 = .ok (.ireturn, 1) := by decide +kernel
theorem dX8_isOneOf_0 : decode cX8_isOneOf 0 = .ok (.iload_n 0, 1) := by decide +kernel
theorem dX8_isOneOf_1 : decode cX8_isOneOf 1 = .ok (.ifCond .lt 12, 3) := by decide +kernel
theorem dX8_isOneOf_4 : decode cX8_isOneOf 4 = .ok (.iload_n 0, 1) := by decide +kernel
theorem dX8_isOneOf_5 : decode cX8_isOneOf 5 = .ok (.iload_n 1, 1) := by decide +kernel
theorem dX8_isOneOf_6 : decode cX8_isOneOf 6 = .ok (.if_icmp .ge 7, 3) := by decide +kernel
theorem dX8_isOneOf_9 : decode cX8_isOneOf 9 = .ok (.iconst 1, 1) := by decide +kernel
theorem dX8_isOneOf_10 : decode cX8_isOneOf 10 = .ok (.goto 4, 3) := by decide +kernel
theorem dX8_isOneOf_13 : decode cX8_isOneOf 13 = .ok (.iconst 0, 1) := by decide +kernel
theorem dX8_isOneOf_14 : decode cX8_isOneOf 14 = .ok (.ireturn, 1) := by decide +kernel
theorem dX8_isIn_0 : decode cX8_isIn 0 = .ok (.iload_n 1, 1) := by decide +kernel
theorem dX8_isIn_1 : decode cX8_isIn 1 = .ok (.iload_n 0, 1) := by decide +kernel
theorem dX8_isIn_2 : decode cX8_isIn 2 = .ok (.ishr, 1) := by decide +kernel
theorem dX8_isIn_3 : decode cX8_isIn 3 = .ok (.iconst 1, 1) := by decide +kernel
theorem dX8_isIn_4 : decode cX8_isIn 4 = .ok (.iand, 1) := by decide +kernel
theorem dX8_isIn_5 : decode cX8_isIn 5 = .ok (.iconst 1, 1) := by decide +kernel
theorem dX8_isIn_6 : decode cX8_isIn 6 = .ok (.if_icmp .ne 7, 3) := by decide +kernel
theorem dX8_isIn_9 : decode cX8_isIn 9 = .ok (.iconst 1, 1) := by decide +kernel
theorem dX8_isIn_10 : decode cX8_isIn 10 = .ok (.goto 4, 3) := by decide +kernel
theorem dX8_isIn_13 : decode cX8_isIn 13 = .ok (.iconst 0, 1) := by decide +kernel
theorem dX8_isIn_14 : decode cX8_isIn 14 = .ok (.ireturn, 1) := by decide +kernel
set_option maxRecDepth 20000 in
theorem ggX8_refusal_X6_isEmpty : GoodIn wsX8_refusal wsX6_isEmpty := goodIn_r _ [5, 6, 12, 13, 14, 15, 16, 17, 18, 19] (by decide +kernel) (by decide +kernel)
set_option maxRecDepth 20000 in
theorem gX8_refusal_X6_isEmpty_n124 : GoodIn wsX8_refusal (wsX6_isEmpty) := ggX8_refusal_X6_isEmpty
theorem dX8_refusal_0 : decode cX8_refusal 0 = .ok (.iload_n 1, 1) := by decide +kernel
theorem dX8_refusal_1 : decode cX8_refusal 1 = .ok (.ifCond .ne 5, 3) := by decide +kernel
theorem dX8_refusal_4 : decode cX8_refusal 4 = .ok (.iconst (-1), 1) := by decide +kernel
theorem dX8_refusal_5 : decode cX8_refusal 5 = .ok (.ireturn, 1) := by decide +kernel
theorem dX8_refusal_6 : decode cX8_refusal 6 = .ok (.iload_n 2, 1) := by decide +kernel
theorem dX8_refusal_7 : decode cX8_refusal 7 = .ok (.ifCond .ne 6, 3) := by decide +kernel
theorem dX8_refusal_10 : decode cX8_refusal 10 = .ok (.bipush (-2), 2) := by decide +kernel
theorem dX8_refusal_12 : decode cX8_refusal 12 = .ok (.ireturn, 1) := by decide +kernel
theorem dX8_refusal_13 : decode cX8_refusal 13 = .ok (.aload_n 0, 1) := by decide +kernel
theorem dX8_refusal_14 : decode cX8_refusal 14 = .ok (.getfield 27, 3) := by decide +kernel
theorem dX8_refusal_17 : decode cX8_refusal 17 = .ok (.invokevirtual 124, 3) := by decide +kernel
theorem dX8_refusal_20 : decode cX8_refusal 20 = .ok (.ifCond .eq 8, 3) := by decide +kernel
theorem dX8_refusal_23 : decode cX8_refusal 23 = .ok (.bipush (-3), 2) := by decide +kernel
theorem dX8_refusal_25 : decode cX8_refusal 25 = .ok (.goto 4, 3) := by decide +kernel
theorem dX8_refusal_28 : decode cX8_refusal 28 = .ok (.iconst 0, 1) := by decide +kernel
theorem dX8_refusal_29 : decode cX8_refusal 29 = .ok (.ireturn, 1) := by decide +kernel
set_option maxRecDepth 20000 in
theorem ggX8_sheetAt_X8_isOneOf : GoodIn wsX8_sheetAt wsX8_isOneOf := goodIn_r _ [5] (by decide +kernel) (by decide +kernel)
set_option maxRecDepth 20000 in
theorem gX8_sheetAt_X8_isOneOf : GoodIn wsX8_sheetAt (va_wsS RX8 49 yX8_isOneOf wsX8_isOneOf) := goodIn_app (goodIn_of _ (by decide +kernel)) ggX8_sheetAt_X8_isOneOf
theorem dX8_sheetAt_0 : decode cX8_sheetAt 0 = .ok (.iload_n 1, 1) := by decide +kernel
theorem dX8_sheetAt_1 : decode cX8_sheetAt 1 = .ok (.iconst 4, 1) := by decide +kernel
theorem dX8_sheetAt_2 : decode cX8_sheetAt 2 = .ok (.invokestatic 49, 3) := by decide +kernel
theorem dX8_sheetAt_5 : decode cX8_sheetAt 5 = .ok (.ifCond .eq 12, 3) := by decide +kernel
theorem dX8_sheetAt_8 : decode cX8_sheetAt 8 = .ok (.aload_n 0, 1) := by decide +kernel
theorem dX8_sheetAt_9 : decode cX8_sheetAt 9 = .ok (.getfield 13, 3) := by decide +kernel
theorem dX8_sheetAt_12 : decode cX8_sheetAt 12 = .ok (.iload_n 1, 1) := by decide +kernel
theorem dX8_sheetAt_13 : decode cX8_sheetAt 13 = .ok (.aaload, 1) := by decide +kernel
theorem dX8_sheetAt_14 : decode cX8_sheetAt 14 = .ok (.goto 4, 3) := by decide +kernel
theorem dX8_sheetAt_17 : decode cX8_sheetAt 17 = .ok (.aconst_null, 1) := by decide +kernel
theorem dX8_sheetAt_18 : decode cX8_sheetAt 18 = .ok (.areturn, 1) := by decide +kernel
theorem dX8_faulted_0 : decode cX8_faulted 0 = .ok (.aload_n 0, 1) := by decide +kernel
theorem dX8_faulted_1 : decode cX8_faulted 1 = .ok (.iload_n 1, 1) := by decide +kernel
theorem dX8_faulted_2 : decode cX8_faulted 2 = .ok (.putfield 41, 3) := by decide +kernel
theorem dX8_faulted_5 : decode cX8_faulted 5 = .ok (.bipush (-10), 2) := by decide +kernel
theorem dX8_faulted_7 : decode cX8_faulted 7 = .ok (.iload_n 1, 1) := by decide +kernel
theorem dX8_faulted_8 : decode cX8_faulted 8 = .ok (.isub, 1) := by decide +kernel
theorem dX8_faulted_9 : decode cX8_faulted 9 = .ok (.ireturn, 1) := by decide +kernel
set_option maxRecDepth 20000 in
theorem ggX8_reach_X4_begin : GoodIn wsX8_reach wsX4_begin := goodIn_r _ [6, 7, 8, 9, 10, 11, 12, 13, 14, 15, 16, 17, 18, 19, 20, 21, 22, 23, 24, 25, 26, 27, 28, 29, 30, 31, 32, 33, 34, 35, 36, 37, 38, 39, 40, 41, 42, 43, 44, 45, 46, 47, 48, 49, 112, 113, 114, 115, 116, 117, 118, 119, 120, 121, 104, 105, 106, 107, 108, 109, 110, 111, 122, 123, 124, 125, 126, 127, 128, 129, 130] (by decide +kernel) (by decide +kernel)
set_option maxRecDepth 20000 in
theorem gX8_reach_X4_begin_n161 : GoodIn wsX8_reach (wsX4_begin) := ggX8_reach_X4_begin
set_option maxRecDepth 20000 in
theorem ggX8_reach_X4_pass : GoodIn wsX8_reach wsX4_pass := goodIn_r _ [52, 9, 53, 54, 55, 4, 56, 10, 57, 13, 58, 59, 60, 61, 11, 62, 63, 64, 65, 66, 67, 68, 69, 70, 71, 21, 22, 23, 72, 73, 74, 75, 76, 77, 78, 79, 12, 80, 81, 82, 83, 84, 14, 7, 85, 86, 87, 88, 89, 90, 91, 92, 93, 94, 95, 96, 97, 98, 8, 112, 113, 114, 115, 116, 117, 118, 119, 120, 121, 104, 105, 106, 107, 108, 109, 110, 111, 131, 132, 133] (by decide +kernel) (by decide +kernel)
set_option maxRecDepth 20000 in
theorem gX8_reach_X4_pass_n164 : GoodIn wsX8_reach (wsX4_pass) := ggX8_reach_X4_pass
theorem dX8_reach_0 : decode cX8_reach 0 = .ok (.aload_n 0, 1) := by decide +kernel
theorem dX8_reach_1 : decode cX8_reach 1 = .ok (.getfield 36, 3) := by decide +kernel
theorem dX8_reach_4 : decode cX8_reach 4 = .ok (.iload_n 2, 1) := by decide +kernel
theorem dX8_reach_5 : decode cX8_reach 5 = .ok (.aload_n 0, 1) := by decide +kernel
theorem dX8_reach_6 : decode cX8_reach 6 = .ok (.getfield 27, 3) := by decide +kernel
theorem dX8_reach_9 : decode cX8_reach 9 = .ok (.getfield 128, 3) := by decide +kernel
theorem dX8_reach_12 : decode cX8_reach 12 = .ok (.invokevirtual 161, 3) := by decide +kernel
theorem dX8_reach_15 : decode cX8_reach 15 = .ok (.iconst 0, 1) := by decide +kernel
theorem dX8_reach_16 : decode cX8_reach 16 = .ok (.istore_n 3, 1) := by decide +kernel
theorem dX8_reach_17 : decode cX8_reach 17 = .ok (.iload_n 3, 1) := by decide +kernel
theorem dX8_reach_18 : decode cX8_reach 18 = .ok (.iload_n 1, 1) := by decide +kernel
theorem dX8_reach_19 : decode cX8_reach 19 = .ok (.if_icmp .gt 16, 3) := by decide +kernel
theorem dX8_reach_22 : decode cX8_reach 22 = .ok (.aload_n 0, 1) := by decide +kernel
theorem dX8_reach_23 : decode cX8_reach 23 = .ok (.getfield 36, 3) := by decide +kernel
theorem dX8_reach_26 : decode cX8_reach 26 = .ok (.invokevirtual 164, 3) := by decide +kernel
theorem dX8_reach_29 : decode cX8_reach 29 = .ok (.iinc 3 1, 3) := by decide +kernel
theorem dX8_reach_32 : decode cX8_reach 32 = .ok (.goto (-15), 3) := by decide +kernel
theorem dX8_reach_35 : decode cX8_reach 35 = .ok (.return_, 1) := by decide +kernel
set_option maxRecDepth 20000 in
theorem ggX8_isBannedIfPaid_X8_reach : GoodIn wsX8_isBannedIfPaid wsX8_reach := goodIn_r _ [6, 1, 7, 8, 9, 10, 11, 12, 13, 14, 15, 16, 17, 18, 19, 20, 21, 22, 23, 24, 25, 26, 5, 27, 28, 29, 30, 31, 32, 33, 34, 35, 36, 37, 38, 39, 40, 41, 42, 43, 44, 45, 46, 47, 48, 49, 50, 51, 52, 53, 54, 55, 56, 57, 58, 59, 60, 61, 62, 63, 64, 65, 66, 67, 68, 69, 70, 71, 72, 73, 74, 75, 76, 77, 78, 79, 80, 81, 82, 83, 84, 85, 86, 87, 88, 89, 90, 91, 92, 93, 94, 95, 96, 97, 98, 99, 100, 101, 102, 118, 119, 120, 121, 122, 123, 124, 125, 126, 127, 128, 129, 130, 131, 132, 133, 134, 135, 136, 137, 138, 139, 140, 141, 142, 143, 144, 145, 146, 147, 148, 149, 150, 151, 152] (by decide +kernel) (by decide +kernel)
set_option maxRecDepth 20000 in
theorem gX8_isBannedIfPaid_X8_reach : GoodIn wsX8_isBannedIfPaid (wsV RX8 143 RX8 yX8_reach wsX8_reach) := goodIn_app (goodIn_of _ (by decide +kernel)) ggX8_isBannedIfPaid_X8_reach
set_option maxRecDepth 20000 in
theorem ggX8_isBannedIfPaid_X4_isBanned : GoodIn wsX8_isBannedIfPaid wsX4_isBanned := goodIn_r _ [105, 106, 107, 108, 9, 109, 15, 110, 111, 112, 113, 18, 97, 5, 98, 114, 115, 116, 117, 14, 66, 67, 68, 69, 70, 71, 72, 73, 74, 75, 26, 27, 131, 132, 133, 134, 135, 136, 137, 138, 139, 140, 123, 124, 125, 126, 127, 128, 129, 130, 150, 151, 152] (by decide +kernel) (by decide +kernel)
set_option maxRecDepth 20000 in
theorem gX8_isBannedIfPaid_X4_isBanned_n167 : GoodIn wsX8_isBannedIfPaid (wsX4_isBanned) := ggX8_isBannedIfPaid_X4_isBanned
theorem dX8_isBannedIfPaid_0 : decode cX8_isBannedIfPaid 0 = .ok (.aload_n 0, 1) := by decide +kernel
theorem dX8_isBannedIfPaid_1 : decode cX8_isBannedIfPaid 1 = .ok (.iload_n 2, 1) := by decide +kernel
theorem dX8_isBannedIfPaid_2 : decode cX8_isBannedIfPaid 2 = .ok (.iload_n 3, 1) := by decide +kernel
theorem dX8_isBannedIfPaid_3 : decode cX8_isBannedIfPaid 3 = .ok (.invokevirtual 143, 3) := by decide +kernel
theorem dX8_isBannedIfPaid_6 : decode cX8_isBannedIfPaid 6 = .ok (.aload_n 0, 1) := by decide +kernel
theorem dX8_isBannedIfPaid_7 : decode cX8_isBannedIfPaid 7 = .ok (.getfield 36, 3) := by decide +kernel
theorem dX8_isBannedIfPaid_10 : decode cX8_isBannedIfPaid 10 = .ok (.iload_n 1, 1) := by decide +kernel
theorem dX8_isBannedIfPaid_11 : decode cX8_isBannedIfPaid 11 = .ok (.invokevirtual 167, 3) := by decide +kernel
theorem dX8_isBannedIfPaid_14 : decode cX8_isBannedIfPaid 14 = .ok (.ireturn, 1) := by decide +kernel
set_option maxRecDepth 20000 in
theorem ggX8_deathOf_X3_at : GoodIn wsX8_deathOf wsX3_at := goodIn_r _ [6, 7, 8, 9, 10, 4, 11, 12, 13, 14, 15, 116, 117, 118] (by decide +kernel) (by decide +kernel)
set_option maxRecDepth 20000 in
theorem gX8_deathOf_X3_at_n135 : GoodIn wsX8_deathOf (wsX3_at) := ggX8_deathOf_X3_at
set_option maxRecDepth 20000 in
theorem ggX8_deathOf_X4_begin : GoodIn wsX8_deathOf wsX4_begin := goodIn_r _ [19, 20, 21, 22, 23, 24, 25, 26, 27, 28, 29, 30, 31, 32, 33, 13, 14, 15, 34, 35, 36, 37, 38, 39, 40, 41, 42, 43, 44, 45, 46, 47, 48, 49, 50, 51, 52, 53, 54, 55, 56, 57, 58, 59, 119, 120, 121, 122, 123, 124, 125, 126, 127, 128, 108, 109, 110, 111, 112, 113, 114, 115, 129, 130, 131, 132, 133, 134, 135, 136, 137] (by decide +kernel) (by decide +kernel)
set_option maxRecDepth 20000 in
theorem gX8_deathOf_X4_begin_n161 : GoodIn wsX8_deathOf (wsX4_begin) := ggX8_deathOf_X4_begin
set_option maxRecDepth 20000 in
theorem ggX8_deathOf_X4_pass : GoodIn wsX8_deathOf wsX4_pass := goodIn_r _ [62, 22, 63, 64, 65, 17, 66, 23, 67, 26, 68, 69, 70, 71, 24, 3, 4, 5, 6, 7, 8, 9, 10, 11, 12, 13, 14, 15, 72, 73, 74, 75, 76, 77, 78, 79, 25, 80, 81, 82, 83, 84, 27, 20, 85, 86, 87, 88, 89, 90, 91, 92, 93, 94, 95, 96, 97, 98, 21, 119, 120, 121, 122, 123, 124, 125, 126, 127, 128, 108, 109, 110, 111, 112, 113, 114, 115, 116, 117, 118] (by decide +kernel) (by decide +kernel)
set_option maxRecDepth 20000 in
theorem gX8_deathOf_X4_pass_n164 : GoodIn wsX8_deathOf (wsX4_pass) := ggX8_deathOf_X4_pass
set_option maxRecDepth 20000 in
theorem ggX8_deathOf_X4_talesOfAll : GoodIn wsX8_deathOf wsX4_talesOfAll := goodIn_r _ [101, 23, 26, 119, 120, 121, 122, 123, 124, 125, 126, 127, 128, 108, 109, 110, 111, 112, 113, 114, 115] (by decide +kernel) (by decide +kernel)
set_option maxRecDepth 20000 in
theorem gX8_deathOf_X4_talesOfAll_n240 : GoodIn wsX8_deathOf (wsX4_talesOfAll) := ggX8_deathOf_X4_talesOfAll
set_option maxRecDepth 20000 in
theorem ggX8_deathOf_X8_isIn : GoodIn wsX8_deathOf wsX8_isIn := goodIn_r _ [94] (by decide +kernel) (by decide +kernel)
set_option maxRecDepth 20000 in
theorem gX8_deathOf_X8_isIn : GoodIn wsX8_deathOf (va_wsS RX8 94 yX8_isIn wsX8_isIn) := goodIn_app (goodIn_of _ (by decide +kernel)) ggX8_deathOf_X8_isIn
theorem dX8_deathOf_0 : decode cX8_deathOf 0 = .ok (.aload_n 0, 1) := by decide +kernel
theorem dX8_deathOf_1 : decode cX8_deathOf 1 = .ok (.getfield 27, 3) := by decide +kernel
theorem dX8_deathOf_4 : decode cX8_deathOf 4 = .ok (.getfield 101, 3) := by decide +kernel
theorem dX8_deathOf_7 : decode cX8_deathOf 7 = .ok (.iload_n 1, 1) := by decide +kernel
theorem dX8_deathOf_8 : decode cX8_deathOf 8 = .ok (.iconst 1, 1) := by decide +kernel
theorem dX8_deathOf_9 : decode cX8_deathOf 9 = .ok (.invokevirtual 135, 3) := by decide +kernel
theorem dX8_deathOf_12 : decode cX8_deathOf 12 = .ok (.istore_n 2, 1) := by decide +kernel
theorem dX8_deathOf_13 : decode cX8_deathOf 13 = .ok (.aload_n 0, 1) := by decide +kernel
theorem dX8_deathOf_14 : decode cX8_deathOf 14 = .ok (.getfield 36, 3) := by decide +kernel
theorem dX8_deathOf_17 : decode cX8_deathOf 17 = .ok (.aload_n 0, 1) := by decide +kernel
theorem dX8_deathOf_18 : decode cX8_deathOf 18 = .ok (.getfield 27, 3) := by decide +kernel
theorem dX8_deathOf_21 : decode cX8_deathOf 21 = .ok (.getfield 91, 3) := by decide +kernel
theorem dX8_deathOf_24 : decode cX8_deathOf 24 = .ok (.aload_n 0, 1) := by decide +kernel
theorem dX8_deathOf_25 : decode cX8_deathOf 25 = .ok (.getfield 27, 3) := by decide +kernel
theorem dX8_deathOf_28 : decode cX8_deathOf 28 = .ok (.getfield 128, 3) := by decide +kernel
theorem dX8_deathOf_31 : decode cX8_deathOf 31 = .ok (.invokevirtual 161, 3) := by decide +kernel
theorem dX8_deathOf_34 : decode cX8_deathOf 34 = .ok (.iconst 0, 1) := by decide +kernel
theorem dX8_deathOf_35 : decode cX8_deathOf 35 = .ok (.istore_n 3, 1) := by decide +kernel
theorem dX8_deathOf_36 : decode cX8_deathOf 36 = .ok (.iload_n 3, 1) := by decide +kernel
theorem dX8_deathOf_37 : decode cX8_deathOf 37 = .ok (.bipush 40, 2) := by decide +kernel
theorem dX8_deathOf_39 : decode cX8_deathOf 39 = .ok (.if_icmp .ge 37, 3) := by decide +kernel
theorem dX8_deathOf_42 : decode cX8_deathOf 42 = .ok (.aload_n 0, 1) := by decide +kernel
theorem dX8_deathOf_43 : decode cX8_deathOf 43 = .ok (.getfield 36, 3) := by decide +kernel
theorem dX8_deathOf_46 : decode cX8_deathOf 46 = .ok (.invokevirtual 164, 3) := by decide +kernel
theorem dX8_deathOf_49 : decode cX8_deathOf 49 = .ok (.iload_n 3, 1) := by decide +kernel
theorem dX8_deathOf_50 : decode cX8_deathOf 50 = .ok (.iload_n 2, 1) := by decide +kernel
theorem dX8_deathOf_51 : decode cX8_deathOf 51 = .ok (.if_icmp .le 19, 3) := by decide +kernel
theorem dX8_deathOf_54 : decode cX8_deathOf 54 = .ok (.iload_n 1, 1) := by decide +kernel
theorem dX8_deathOf_55 : decode cX8_deathOf 55 = .ok (.aload_n 0, 1) := by decide +kernel
theorem dX8_deathOf_56 : decode cX8_deathOf 56 = .ok (.getfield 36, 3) := by decide +kernel
theorem dX8_deathOf_59 : decode cX8_deathOf 59 = .ok (.invokevirtual 240, 3) := by decide +kernel
theorem dX8_deathOf_62 : decode cX8_deathOf 62 = .ok (.invokestatic 94, 3) := by decide +kernel
theorem dX8_deathOf_65 : decode cX8_deathOf 65 = .ok (.ifCond .ne 5, 3) := by decide +kernel
theorem dX8_deathOf_68 : decode cX8_deathOf 68 = .ok (.iload_n 3, 1) := by decide +kernel
theorem dX8_deathOf_69 : decode cX8_deathOf 69 = .ok (.ireturn, 1) := by decide +kernel
theorem dX8_deathOf_70 : decode cX8_deathOf 70 = .ok (.iinc 3 1, 3) := by decide +kernel
theorem dX8_deathOf_73 : decode cX8_deathOf 73 = .ok (.goto (-37), 3) := by decide +kernel
theorem dX8_deathOf_76 : decode cX8_deathOf 76 = .ok (.bipush (-9), 2) := by decide +kernel
theorem dX8_deathOf_78 : decode cX8_deathOf 78 = .ok (.ireturn, 1) := by decide +kernel
set_option maxRecDepth 20000 in
theorem ggX8_firstBanned_X4_begin : GoodIn wsX8_firstBanned wsX4_begin := goodIn_r _ [6, 7, 8, 9, 10, 11, 12, 13, 14, 15, 16, 17, 18, 19, 20, 21, 22, 23, 24, 25, 26, 27, 28, 29, 30, 31, 32, 33, 34, 35, 36, 37, 38, 39, 40, 41, 42, 43, 44, 45, 46, 47, 48, 49, 137, 138, 139, 140, 141, 142, 143, 144, 145, 146, 129, 130, 131, 132, 133, 134, 135, 136, 147, 148, 149, 150, 151, 152, 153, 154, 155] (by decide +kernel) (by decide +kernel)
set_option maxRecDepth 20000 in
theorem gX8_firstBanned_X4_begin_n161 : GoodIn wsX8_firstBanned (wsX4_begin) := ggX8_firstBanned_X4_begin
set_option maxRecDepth 20000 in
theorem ggX8_firstBanned_X4_pass : GoodIn wsX8_firstBanned wsX4_pass := goodIn_r _ [52, 9, 53, 54, 55, 4, 56, 10, 57, 13, 58, 59, 60, 61, 11, 62, 63, 64, 65, 66, 67, 68, 69, 70, 71, 21, 22, 23, 72, 73, 74, 75, 76, 77, 78, 79, 12, 80, 81, 82, 83, 84, 14, 7, 85, 86, 87, 88, 89, 90, 91, 92, 93, 94, 95, 96, 97, 98, 8, 137, 138, 139, 140, 141, 142, 143, 144, 145, 146, 129, 130, 131, 132, 133, 134, 135, 136, 156, 157, 158] (by decide +kernel) (by decide +kernel)
set_option maxRecDepth 20000 in
theorem gX8_firstBanned_X4_pass_n164 : GoodIn wsX8_firstBanned (wsX4_pass) := ggX8_firstBanned_X4_pass
set_option maxRecDepth 20000 in
theorem ggX8_firstBanned_X5_at : GoodIn wsX8_firstBanned wsX5_at := goodIn_r _ [102, 103, 104, 105, 106, 100, 107, 108, 21, 22, 23, 159, 160, 161] (by decide +kernel) (by decide +kernel)
set_option maxRecDepth 20000 in
theorem gX8_firstBanned_X5_at_n209 : GoodIn wsX8_firstBanned (wsX5_at) := ggX8_firstBanned_X5_at
set_option maxRecDepth 20000 in
theorem ggX8_firstBanned_X4_isBanned : GoodIn wsX8_firstBanned wsX4_isBanned := goodIn_r _ [111, 112, 113, 114, 4, 115, 10, 116, 117, 118, 119, 13, 93, 22, 94, 120, 121, 122, 123, 9, 62, 63, 64, 65, 66, 67, 68, 69, 70, 71, 21, 23, 137, 138, 139, 140, 141, 142, 143, 144, 145, 146, 129, 130, 131, 132, 133, 134, 135, 136, 156, 157, 158] (by decide +kernel) (by decide +kernel)
set_option maxRecDepth 20000 in
theorem gX8_firstBanned_X4_isBanned_n167 : GoodIn wsX8_firstBanned (wsX4_isBanned) := ggX8_firstBanned_X4_isBanned
theorem dX8_firstBanned_0 : decode cX8_firstBanned 0 = .ok (.aload_n 0, 1) := by decide +kernel
theorem dX8_firstBanned_1 : decode cX8_firstBanned 1 = .ok (.getfield 36, 3) := by decide +kernel
theorem dX8_firstBanned_4 : decode cX8_firstBanned 4 = .ok (.aload_n 0, 1) := by decide +kernel
theorem dX8_firstBanned_5 : decode cX8_firstBanned 5 = .ok (.getfield 27, 3) := by decide +kernel
theorem dX8_firstBanned_8 : decode cX8_firstBanned 8 = .ok (.getfield 91, 3) := by decide +kernel
theorem dX8_firstBanned_11 : decode cX8_firstBanned 11 = .ok (.aload_n 0, 1) := by decide +kernel
theorem dX8_firstBanned_12 : decode cX8_firstBanned 12 = .ok (.getfield 27, 3) := by decide +kernel
theorem dX8_firstBanned_15 : decode cX8_firstBanned 15 = .ok (.getfield 128, 3) := by decide +kernel
theorem dX8_firstBanned_18 : decode cX8_firstBanned 18 = .ok (.invokevirtual 161, 3) := by decide +kernel
theorem dX8_firstBanned_21 : decode cX8_firstBanned 21 = .ok (.iconst 0, 1) := by decide +kernel
theorem dX8_firstBanned_22 : decode cX8_firstBanned 22 = .ok (.istore 5, 2) := by decide +kernel
theorem dX8_firstBanned_24 : decode cX8_firstBanned 24 = .ok (.iload 5, 2) := by decide +kernel
theorem dX8_firstBanned_26 : decode cX8_firstBanned 26 = .ok (.iload_n 1, 1) := by decide +kernel
theorem dX8_firstBanned_27 : decode cX8_firstBanned 27 = .ok (.iload 4, 2) := by decide +kernel
theorem dX8_firstBanned_29 : decode cX8_firstBanned 29 = .ok (.iadd, 1) := by decide +kernel
theorem dX8_firstBanned_30 : decode cX8_firstBanned 30 = .ok (.if_icmp .ge 48, 3) := by decide +kernel
theorem dX8_firstBanned_33 : decode cX8_firstBanned 33 = .ok (.aload_n 0, 1) := by decide +kernel
theorem dX8_firstBanned_34 : decode cX8_firstBanned 34 = .ok (.getfield 36, 3) := by decide +kernel
theorem dX8_firstBanned_37 : decode cX8_firstBanned 37 = .ok (.invokevirtual 164, 3) := by decide +kernel
theorem dX8_firstBanned_40 : decode cX8_firstBanned 40 = .ok (.iload 5, 2) := by decide +kernel
theorem dX8_firstBanned_42 : decode cX8_firstBanned 42 = .ok (.iload_n 1, 1) := by decide +kernel
theorem dX8_firstBanned_43 : decode cX8_firstBanned 43 = .ok (.isub, 1) := by decide +kernel
theorem dX8_firstBanned_44 : decode cX8_firstBanned 44 = .ok (.istore 6, 2) := by decide +kernel
theorem dX8_firstBanned_46 : decode cX8_firstBanned 46 = .ok (.iload 6, 2) := by decide +kernel
theorem dX8_firstBanned_48 : decode cX8_firstBanned 48 = .ok (.ifCond .lt 24, 3) := by decide +kernel
theorem dX8_firstBanned_51 : decode cX8_firstBanned 51 = .ok (.aload_n 0, 1) := by decide +kernel
theorem dX8_firstBanned_52 : decode cX8_firstBanned 52 = .ok (.getfield 36, 3) := by decide +kernel
theorem dX8_firstBanned_55 : decode cX8_firstBanned 55 = .ok (.aload_n 2, 1) := by decide +kernel
theorem dX8_firstBanned_56 : decode cX8_firstBanned 56 = .ok (.iload_n 3, 1) := by decide +kernel
theorem dX8_firstBanned_57 : decode cX8_firstBanned 57 = .ok (.iload 6, 2) := by decide +kernel
theorem dX8_firstBanned_59 : decode cX8_firstBanned 59 = .ok (.iadd, 1) := by decide +kernel
theorem dX8_firstBanned_60 : decode cX8_firstBanned 60 = .ok (.invokevirtual 209, 3) := by decide +kernel
theorem dX8_firstBanned_63 : decode cX8_firstBanned 63 = .ok (.invokevirtual 167, 3) := by decide +kernel
theorem dX8_firstBanned_66 : decode cX8_firstBanned 66 = .ok (.ifCond .eq 6, 3) := by decide +kernel
theorem dX8_firstBanned_69 : decode cX8_firstBanned 69 = .ok (.iload 6, 2) := by decide +kernel
theorem dX8_firstBanned_71 : decode cX8_firstBanned 71 = .ok (.ireturn, 1) := by decide +kernel
theorem dX8_firstBanned_72 : decode cX8_firstBanned 72 = .ok (.iinc 5 1, 3) := by decide +kernel
theorem dX8_firstBanned_75 : decode cX8_firstBanned 75 = .ok (.goto (-51), 3) := by decide +kernel
theorem dX8_firstBanned_78 : decode cX8_firstBanned 78 = .ok (.bipush (-9), 2) := by decide +kernel
theorem dX8_firstBanned_80 : decode cX8_firstBanned 80 = .ok (.ireturn, 1) := by decide +kernel
set_option maxRecDepth 20000 in
theorem ggX8_areReadingsSo_X4_begin : GoodIn wsX8_areReadingsSo wsX4_begin := goodIn_r _ [5, 6, 7, 8, 9, 10, 11, 12, 13, 14, 15, 16, 17, 18, 19, 20, 21, 22, 23, 24, 25, 26, 27, 28, 29, 30, 31, 32, 33, 34, 35, 36, 37, 38, 39, 40, 41, 42, 43, 44, 45, 46, 47, 48, 112, 113, 114, 115, 116, 117, 118, 119, 120, 121, 122, 123, 124, 125, 126, 127, 128, 129, 130, 131, 132, 133, 134, 135, 136, 137, 138] (by decide +kernel) (by decide +kernel)
set_option maxRecDepth 20000 in
theorem gX8_areReadingsSo_X4_begin_n161 : GoodIn wsX8_areReadingsSo (wsX4_begin) := ggX8_areReadingsSo_X4_begin
set_option maxRecDepth 20000 in
theorem ggX8_areReadingsSo_X4_pass : GoodIn wsX8_areReadingsSo wsX4_pass := goodIn_r _ [51, 8, 52, 53, 54, 3, 55, 9, 56, 12, 57, 58, 59, 60, 10, 61, 62, 63, 64, 65, 66, 67, 68, 69, 70, 20, 21, 22, 71, 72, 73, 74, 75, 76, 77, 78, 11, 79, 80, 81, 82, 83, 13, 6, 84, 85, 86, 87, 88, 89, 90, 91, 92, 93, 94, 95, 96, 97, 7, 112, 113, 114, 115, 116, 117, 118, 119, 120, 121, 122, 123, 124, 125, 126, 127, 128, 129, 139, 140, 141] (by decide +kernel) (by decide +kernel)
set_option maxRecDepth 20000 in
theorem gX8_areReadingsSo_X4_pass_n164 : GoodIn wsX8_areReadingsSo (wsX4_pass) := ggX8_areReadingsSo_X4_pass
set_option maxRecDepth 20000 in
theorem ggX8_areReadingsSo_X8_areReadingsSoIn : GoodIn wsX8_areReadingsSo wsX8_areReadingsSoIn := goodIn_r _ [101, 102, 1, 61, 62, 63, 64, 65, 66, 67, 68, 69, 70, 20, 21, 22, 103, 3, 104, 105, 12, 106, 92, 93, 107, 108, 109, 110, 111, 122, 123, 124, 125, 126, 127, 128, 129, 139, 140, 141, 112, 113, 114, 115, 116, 117, 118, 119, 120, 121] (by decide +kernel) (by decide +kernel)
set_option maxRecDepth 20000 in
theorem gX8_areReadingsSo_X8_areReadingsSoIn : GoodIn wsX8_areReadingsSo (wsV RX8 243 RX8 yX8_areReadingsSoIn wsX8_areReadingsSoIn) := goodIn_app (goodIn_of _ (by decide +kernel)) ggX8_areReadingsSo_X8_areReadingsSoIn
theorem dX8_areReadingsSo_0 : decode cX8_areReadingsSo 0 = .ok (.aload_n 0, 1) := by decide +kernel
theorem dX8_areReadingsSo_1 : decode cX8_areReadingsSo 1 = .ok (.getfield 36, 3) := by decide +kernel
theorem dX8_areReadingsSo_4 : decode cX8_areReadingsSo 4 = .ok (.iload_n 1, 1) := by decide +kernel
theorem dX8_areReadingsSo_5 : decode cX8_areReadingsSo 5 = .ok (.iload_n 2, 1) := by decide +kernel
theorem dX8_areReadingsSo_6 : decode cX8_areReadingsSo 6 = .ok (.invokevirtual 161, 3) := by decide +kernel
theorem dX8_areReadingsSo_9 : decode cX8_areReadingsSo 9 = .ok (.iconst 0, 1) := by decide +kernel
theorem dX8_areReadingsSo_10 : decode cX8_areReadingsSo 10 = .ok (.istore_n 3, 1) := by decide +kernel
theorem dX8_areReadingsSo_11 : decode cX8_areReadingsSo 11 = .ok (.iload_n 3, 1) := by decide +kernel
theorem dX8_areReadingsSo_12 : decode cX8_areReadingsSo 12 = .ok (.bipush 40, 2) := by decide +kernel
theorem dX8_areReadingsSo_14 : decode cX8_areReadingsSo 14 = .ok (.if_icmp .ge 26, 3) := by decide +kernel
theorem dX8_areReadingsSo_17 : decode cX8_areReadingsSo 17 = .ok (.aload_n 0, 1) := by decide +kernel
theorem dX8_areReadingsSo_18 : decode cX8_areReadingsSo 18 = .ok (.getfield 36, 3) := by decide +kernel
theorem dX8_areReadingsSo_21 : decode cX8_areReadingsSo 21 = .ok (.invokevirtual 164, 3) := by decide +kernel
theorem dX8_areReadingsSo_24 : decode cX8_areReadingsSo 24 = .ok (.aload_n 0, 1) := by decide +kernel
theorem dX8_areReadingsSo_25 : decode cX8_areReadingsSo 25 = .ok (.iload_n 3, 1) := by decide +kernel
theorem dX8_areReadingsSo_26 : decode cX8_areReadingsSo 26 = .ok (.invokevirtual 243, 3) := by decide +kernel
theorem dX8_areReadingsSo_29 : decode cX8_areReadingsSo 29 = .ok (.ifCond .ne 5, 3) := by decide +kernel
theorem dX8_areReadingsSo_32 : decode cX8_areReadingsSo 32 = .ok (.iconst 0, 1) := by decide +kernel
theorem dX8_areReadingsSo_33 : decode cX8_areReadingsSo 33 = .ok (.ireturn, 1) := by decide +kernel
theorem dX8_areReadingsSo_34 : decode cX8_areReadingsSo 34 = .ok (.iinc 3 1, 3) := by decide +kernel
theorem dX8_areReadingsSo_37 : decode cX8_areReadingsSo 37 = .ok (.goto (-26), 3) := by decide +kernel
theorem dX8_areReadingsSo_40 : decode cX8_areReadingsSo 40 = .ok (.iconst 1, 1) := by decide +kernel
theorem dX8_areReadingsSo_41 : decode cX8_areReadingsSo 41 = .ok (.ireturn, 1) := by decide +kernel
set_option maxRecDepth 20000 in
theorem ggX8_areReadingsSoIn_X3_at : GoodIn wsX8_areReadingsSoIn wsX3_at := goodIn_r _ [6, 7, 8, 9, 10, 4, 11, 12, 13, 14, 15, 37, 38, 39] (by decide +kernel) (by decide +kernel)
set_option maxRecDepth 20000 in
theorem gX8_areReadingsSoIn_X3_at_n135 : GoodIn wsX8_areReadingsSoIn (wsX3_at) := ggX8_areReadingsSoIn_X3_at
set_option maxRecDepth 20000 in
theorem ggX8_areReadingsSoIn_X4_talesOf : GoodIn wsX8_areReadingsSoIn wsX4_talesOf := goodIn_r _ [19, 20, 13, 14, 15, 40, 41, 42, 43, 44, 45, 46, 47, 48, 49] (by decide +kernel) (by decide +kernel)
set_option maxRecDepth 20000 in
theorem gX8_areReadingsSoIn_X4_talesOf_n146 : GoodIn wsX8_areReadingsSoIn (wsX4_talesOf) := ggX8_areReadingsSoIn_X4_talesOf
set_option maxRecDepth 20000 in
theorem ggX8_areReadingsSoIn_X8_isIn : GoodIn wsX8_areReadingsSoIn wsX8_isIn := goodIn_r _ [23] (by decide +kernel) (by decide +kernel)
set_option maxRecDepth 20000 in
theorem gX8_areReadingsSoIn_X8_isIn : GoodIn wsX8_areReadingsSoIn (va_wsS RX8 94 yX8_isIn wsX8_isIn) := goodIn_app (goodIn_of _ (by decide +kernel)) ggX8_areReadingsSoIn_X8_isIn
theorem dX8_areReadingsSoIn_0 : decode cX8_areReadingsSoIn 0 = .ok (.iconst 0, 1) := by decide +kernel
theorem dX8_areReadingsSoIn_1 : decode cX8_areReadingsSoIn 1 = .ok (.istore_n 2, 1) := by decide +kernel
theorem dX8_areReadingsSoIn_2 : decode cX8_areReadingsSoIn 2 = .ok (.iload_n 2, 1) := by decide +kernel
theorem dX8_areReadingsSoIn_3 : decode cX8_areReadingsSoIn 3 = .ok (.aload_n 0, 1) := by decide +kernel
theorem dX8_areReadingsSoIn_4 : decode cX8_areReadingsSoIn 4 = .ok (.getfield 27, 3) := by decide +kernel
theorem dX8_areReadingsSoIn_7 : decode cX8_areReadingsSoIn 7 = .ok (.getfield 114, 3) := by decide +kernel
theorem dX8_areReadingsSoIn_10 : decode cX8_areReadingsSoIn 10 = .ok (.getfield 237, 3) := by decide +kernel
theorem dX8_areReadingsSoIn_13 : decode cX8_areReadingsSoIn 13 = .ok (.if_icmp .ge 87, 3) := by decide +kernel
theorem dX8_areReadingsSoIn_16 : decode cX8_areReadingsSoIn 16 = .ok (.aload_n 0, 1) := by decide +kernel
theorem dX8_areReadingsSoIn_17 : decode cX8_areReadingsSoIn 17 = .ok (.getfield 27, 3) := by decide +kernel
theorem dX8_areReadingsSoIn_20 : decode cX8_areReadingsSoIn 20 = .ok (.getfield 114, 3) := by decide +kernel
theorem dX8_areReadingsSoIn_23 : decode cX8_areReadingsSoIn 23 = .ok (.iload_n 2, 1) := by decide +kernel
theorem dX8_areReadingsSoIn_24 : decode cX8_areReadingsSoIn 24 = .ok (.iconst 1, 1) := by decide +kernel
theorem dX8_areReadingsSoIn_25 : decode cX8_areReadingsSoIn 25 = .ok (.invokevirtual 135, 3) := by decide +kernel
theorem dX8_areReadingsSoIn_28 : decode cX8_areReadingsSoIn 28 = .ok (.iload_n 1, 1) := by decide +kernel
theorem dX8_areReadingsSoIn_29 : decode cX8_areReadingsSoIn 29 = .ok (.if_icmp .ne 65, 3) := by decide +kernel
theorem dX8_areReadingsSoIn_32 : decode cX8_areReadingsSoIn 32 = .ok (.aload_n 0, 1) := by decide +kernel
theorem dX8_areReadingsSoIn_33 : decode cX8_areReadingsSoIn 33 = .ok (.getfield 27, 3) := by decide +kernel
theorem dX8_areReadingsSoIn_36 : decode cX8_areReadingsSoIn 36 = .ok (.getfield 114, 3) := by decide +kernel
theorem dX8_areReadingsSoIn_39 : decode cX8_areReadingsSoIn 39 = .ok (.iload_n 2, 1) := by decide +kernel
theorem dX8_areReadingsSoIn_40 : decode cX8_areReadingsSoIn 40 = .ok (.iconst 2, 1) := by decide +kernel
theorem dX8_areReadingsSoIn_41 : decode cX8_areReadingsSoIn 41 = .ok (.invokevirtual 135, 3) := by decide +kernel
theorem dX8_areReadingsSoIn_44 : decode cX8_areReadingsSoIn 44 = .ok (.aload_n 0, 1) := by decide +kernel
theorem dX8_areReadingsSoIn_45 : decode cX8_areReadingsSoIn 45 = .ok (.getfield 36, 3) := by decide +kernel
theorem dX8_areReadingsSoIn_48 : decode cX8_areReadingsSoIn 48 = .ok (.aload_n 0, 1) := by decide +kernel
theorem dX8_areReadingsSoIn_49 : decode cX8_areReadingsSoIn 49 = .ok (.getfield 27, 3) := by decide +kernel
theorem dX8_areReadingsSoIn_52 : decode cX8_areReadingsSoIn 52 = .ok (.getfield 114, 3) := by decide +kernel
theorem dX8_areReadingsSoIn_55 : decode cX8_areReadingsSoIn 55 = .ok (.iload_n 2, 1) := by decide +kernel
theorem dX8_areReadingsSoIn_56 : decode cX8_areReadingsSoIn 56 = .ok (.iconst 0, 1) := by decide +kernel
theorem dX8_areReadingsSoIn_57 : decode cX8_areReadingsSoIn 57 = .ok (.invokevirtual 135, 3) := by decide +kernel
theorem dX8_areReadingsSoIn_60 : decode cX8_areReadingsSoIn 60 = .ok (.invokevirtual 146, 3) := by decide +kernel
theorem dX8_areReadingsSoIn_63 : decode cX8_areReadingsSoIn 63 = .ok (.invokestatic 94, 3) := by decide +kernel
theorem dX8_areReadingsSoIn_66 : decode cX8_areReadingsSoIn 66 = .ok (.istore_n 3, 1) := by decide +kernel
theorem dX8_areReadingsSoIn_67 : decode cX8_areReadingsSoIn 67 = .ok (.iload_n 3, 1) := by decide +kernel
theorem dX8_areReadingsSoIn_68 : decode cX8_areReadingsSoIn 68 = .ok (.aload_n 0, 1) := by decide +kernel
theorem dX8_areReadingsSoIn_69 : decode cX8_areReadingsSoIn 69 = .ok (.getfield 27, 3) := by decide +kernel
theorem dX8_areReadingsSoIn_72 : decode cX8_areReadingsSoIn 72 = .ok (.getfield 114, 3) := by decide +kernel
theorem dX8_areReadingsSoIn_75 : decode cX8_areReadingsSoIn 75 = .ok (.iload_n 2, 1) := by decide +kernel
theorem dX8_areReadingsSoIn_76 : decode cX8_areReadingsSoIn 76 = .ok (.iconst 3, 1) := by decide +kernel
theorem dX8_areReadingsSoIn_77 : decode cX8_areReadingsSoIn 77 = .ok (.invokevirtual 135, 3) := by decide +kernel
theorem dX8_areReadingsSoIn_80 : decode cX8_areReadingsSoIn 80 = .ok (.iconst 1, 1) := by decide +kernel
theorem dX8_areReadingsSoIn_81 : decode cX8_areReadingsSoIn 81 = .ok (.if_icmp .ne 7, 3) := by decide +kernel
theorem dX8_areReadingsSoIn_84 : decode cX8_areReadingsSoIn 84 = .ok (.iconst 1, 1) := by decide +kernel
theorem dX8_areReadingsSoIn_85 : decode cX8_areReadingsSoIn 85 = .ok (.goto 4, 3) := by decide +kernel
theorem dX8_areReadingsSoIn_88 : decode cX8_areReadingsSoIn 88 = .ok (.iconst 0, 1) := by decide +kernel
theorem dX8_areReadingsSoIn_89 : decode cX8_areReadingsSoIn 89 = .ok (.if_icmp .eq 5, 3) := by decide +kernel
theorem dX8_areReadingsSoIn_92 : decode cX8_areReadingsSoIn 92 = .ok (.iconst 0, 1) := by decide +kernel
theorem dX8_areReadingsSoIn_93 : decode cX8_areReadingsSoIn 93 = .ok (.ireturn, 1) := by decide +kernel
theorem dX8_areReadingsSoIn_94 : decode cX8_areReadingsSoIn 94 = .ok (.iinc 2 1, 3) := by decide +kernel
theorem dX8_areReadingsSoIn_97 : decode cX8_areReadingsSoIn 97 = .ok (.goto (-95), 3) := by decide +kernel
theorem dX8_areReadingsSoIn_100 : decode cX8_areReadingsSoIn 100 = .ok (.iconst 1, 1) := by decide +kernel
theorem dX8_areReadingsSoIn_101 : decode cX8_areReadingsSoIn 101 = .ok (.ireturn, 1) := by decide +kernel
theorem dX9_init_0 : decode cX9_init 0 = .ok (.aload_n 0, 1) := by decide +kernel
theorem dX9_init_1 : decode cX9_init 1 = .ok (.invokespecial 1, 3) := by decide +kernel
theorem dX9_init_4 : decode cX9_init 4 = .ok (.aload_n 0, 1) := by decide +kernel
theorem dX9_init_5 : decode cX9_init 5 = .ok (.bipush 6, 2) := by decide +kernel
theorem dX9_init_7 : decode cX9_init 7 = .ok (.newarray .int, 2) := by decide +kernel
theorem dX9_init_9 : decode cX9_init 9 = .ok (.putfield 7, 3) := by decide +kernel
theorem dX9_init_12 : decode cX9_init 12 = .ok (.aload_n 0, 1) := by decide +kernel
theorem dX9_init_13 : decode cX9_init 13 = .ok (.bipush 6, 2) := by decide +kernel
theorem dX9_init_15 : decode cX9_init 15 = .ok (.newarray .int, 2) := by decide +kernel
theorem dX9_init_17 : decode cX9_init 17 = .ok (.putfield 13, 3) := by decide +kernel
theorem dX9_init_20 : decode cX9_init 20 = .ok (.aload_n 0, 1) := by decide +kernel
theorem dX9_init_21 : decode cX9_init 21 = .ok (.bipush 6, 2) := by decide +kernel
theorem dX9_init_23 : decode cX9_init 23 = .ok (.newarray .int, 2) := by decide +kernel
theorem dX9_init_25 : decode cX9_init 25 = .ok (.putfield 16, 3) := by decide +kernel
theorem dX9_init_28 : decode cX9_init 28 = .ok (.aload_n 0, 1) := by decide +kernel
theorem dX9_init_29 : decode cX9_init 29 = .ok (.bipush 6, 2) := by decide +kernel
theorem dX9_init_31 : decode cX9_init 31 = .ok (.newarray .int, 2) := by decide +kernel
theorem dX9_init_33 : decode cX9_init 33 = .ok (.putfield 19, 3) := by decide +kernel
theorem dX9_init_36 : decode cX9_init 36 = .ok (.aload_n 0, 1) := by decide +kernel
theorem dX9_init_37 : decode cX9_init 37 = .ok (.bipush 6, 2) := by decide +kernel
theorem dX9_init_39 : decode cX9_init 39 = .ok (.newarray .int, 2) := by decide +kernel
theorem dX9_init_41 : decode cX9_init 41 = .ok (.putfield 22, 3) := by decide +kernel
theorem dX9_init_44 : decode cX9_init 44 = .ok (.aload_n 0, 1) := by decide +kernel
theorem dX9_init_45 : decode cX9_init 45 = .ok (.bipush 6, 2) := by decide +kernel
theorem dX9_init_47 : decode cX9_init 47 = .ok (.newarray .int, 2) := by decide +kernel
theorem dX9_init_49 : decode cX9_init 49 = .ok (.putfield 25, 3) := by decide +kernel
theorem dX9_init_52 : decode cX9_init 52 = .ok (.aload_n 0, 1) := by decide +kernel
theorem dX9_init_53 : decode cX9_init 53 = .ok (.bipush 6, 2) := by decide +kernel
theorem dX9_init_55 : decode cX9_init 55 = .ok (.newarray .int, 2) := by decide +kernel
theorem dX9_init_57 : decode cX9_init 57 = .ok (.putfield 28, 3) := by decide +kernel
theorem dX9_init_60 : decode cX9_init 60 = .ok (.aload_n 0, 1) := by decide +kernel
theorem dX9_init_61 : decode cX9_init 61 = .ok (.bipush 6, 2) := by decide +kernel
theorem dX9_init_63 : decode cX9_init 63 = .ok (.newarray .int, 2) := by decide +kernel
theorem dX9_init_65 : decode cX9_init 65 = .ok (.putfield 31, 3) := by decide +kernel
theorem dX9_init_68 : decode cX9_init 68 = .ok (.aload_n 0, 1) := by decide +kernel
theorem dX9_init_69 : decode cX9_init 69 = .ok (.bipush 6, 2) := by decide +kernel
theorem dX9_init_71 : decode cX9_init 71 = .ok (.newarray .int, 2) := by decide +kernel
theorem dX9_init_73 : decode cX9_init 73 = .ok (.putfield 34, 3) := by decide +kernel
theorem dX9_init_76 : decode cX9_init 76 = .ok (.aload_n 0, 1) := by decide +kernel
theorem dX9_init_77 : decode cX9_init 77 = .ok (.bipush 6, 2) := by decide +kernel
theorem dX9_init_79 : decode cX9_init 79 = .ok (.newarray .boolean, 2) := by decide +kernel
theorem dX9_init_81 : decode cX9_init 81 = .ok (.putfield 37, 3) := by decide +kernel
theorem dX9_init_84 : decode cX9_init 84 = .ok (.aload_n 0, 1) := by decide +kernel
theorem dX9_init_85 : decode cX9_init 85 = .ok (.bipush 8, 2) := by decide +kernel
theorem dX9_init_87 : decode cX9_init 87 = .ok (.newarray .int, 2) := by decide +kernel
theorem dX9_init_89 : decode cX9_init 89 = .ok (.putfield 41, 3) := by decide +kernel
theorem dX9_init_92 : decode cX9_init 92 = .ok (.aload_n 0, 1) := by decide +kernel
theorem dX9_init_93 : decode cX9_init 93 = .ok (.bipush 8, 2) := by decide +kernel
theorem dX9_init_95 : decode cX9_init 95 = .ok (.newarray .int, 2) := by decide +kernel
theorem dX9_init_97 : decode cX9_init 97 = .ok (.putfield 44, 3) := by decide +kernel
theorem dX9_init_100 : decode cX9_init 100 = .ok (.aload_n 0, 1) := by decide +kernel
theorem dX9_init_101 : decode cX9_init 101 = .ok (.bipush 8, 2) := by decide +kernel
theorem dX9_init_103 : decode cX9_init 103 = .ok (.newarray .int, 2) := by decide +kernel
theorem dX9_init_105 : decode cX9_init 105 = .ok (.putfield 47, 3) := by decide +kernel
theorem dX9_init_108 : decode cX9_init 108 = .ok (.aload_n 0, 1) := by decide +kernel
theorem dX9_init_109 : decode cX9_init 109 = .ok (.bipush 6, 2) := by decide +kernel
theorem dX9_init_111 : decode cX9_init 111 = .ok (.newarray .int, 2) := by decide +kernel
theorem dX9_init_113 : decode cX9_init 113 = .ok (.putfield 50, 3) := by decide +kernel
theorem dX9_init_116 : decode cX9_init 116 = .ok (.aload_n 0, 1) := by decide +kernel
theorem dX9_init_117 : decode cX9_init 117 = .ok (.bipush 36, 2) := by decide +kernel
theorem dX9_init_119 : decode cX9_init 119 = .ok (.newarray .int, 2) := by decide +kernel
theorem dX9_init_121 : decode cX9_init 121 = .ok (.putfield 53, 3) := by decide +kernel
theorem dX9_init_124 : decode cX9_init 124 = .ok (.aload_n 0, 1) := by decide +kernel
theorem dX9_init_125 : decode cX9_init 125 = .ok (.bipush 18, 2) := by decide +kernel
theorem dX9_init_127 : decode cX9_init 127 = .ok (.newarray .int, 2) := by decide +kernel
theorem dX9_init_129 : decode cX9_init 129 = .ok (.putfield 56, 3) := by decide +kernel
theorem dX9_init_132 : decode cX9_init 132 = .ok (.aload_n 0, 1) := by decide +kernel
theorem dX9_init_133 : decode cX9_init 133 = .ok (.iconst 3, 1) := by decide +kernel
theorem dX9_init_134 : decode cX9_init 134 = .ok (.newarray .int, 2) := by decide +kernel
theorem dX9_init_136 : decode cX9_init 136 = .ok (.putfield 59, 3) := by decide +kernel
theorem dX9_init_139 : decode cX9_init 139 = .ok (.aload_n 0, 1) := by decide +kernel
theorem dX9_init_140 : decode cX9_init 140 = .ok (.bipush 6, 2) := by decide +kernel
theorem dX9_init_142 : decode cX9_init 142 = .ok (.newarray .int, 2) := by decide +kernel
theorem dX9_init_144 : decode cX9_init 144 = .ok (.putfield 62, 3) := by decide +kernel
theorem dX9_init_147 : decode cX9_init 147 = .ok (.aload_n 0, 1) := by decide +kernel
theorem dX9_init_148 : decode cX9_init 148 = .ok (.bipush 6, 2) := by decide +kernel
theorem dX9_init_150 : decode cX9_init 150 = .ok (.newarray .int, 2) := by decide +kernel
theorem dX9_init_152 : decode cX9_init 152 = .ok (.putfield 65, 3) := by decide +kernel
theorem dX9_init_155 : decode cX9_init 155 = .ok (.aload_n 0, 1) := by decide +kernel
theorem dX9_init_156 : decode cX9_init 156 = .ok (.bipush 8, 2) := by decide +kernel
theorem dX9_init_158 : decode cX9_init 158 = .ok (.newarray .int, 2) := by decide +kernel
theorem dX9_init_160 : decode cX9_init 160 = .ok (.putfield 68, 3) := by decide +kernel
theorem dX9_init_163 : decode cX9_init 163 = .ok (.aload_n 0, 1) := by decide +kernel
theorem dX9_init_164 : decode cX9_init 164 = .ok (.bipush 8, 2) := by decide +kernel
theorem dX9_init_166 : decode cX9_init 166 = .ok (.newarray .int, 2) := by decide +kernel
theorem dX9_init_168 : decode cX9_init 168 = .ok (.putfield 71, 3) := by decide +kernel
theorem dX9_init_171 : decode cX9_init 171 = .ok (.aload_n 0, 1) := by decide +kernel
theorem dX9_init_172 : decode cX9_init 172 = .ok (.bipush 8, 2) := by decide +kernel
theorem dX9_init_174 : decode cX9_init 174 = .ok (.newarray .int, 2) := by decide +kernel
theorem dX9_init_176 : decode cX9_init 176 = .ok (.putfield 74, 3) := by decide +kernel
theorem dX9_init_179 : decode cX9_init 179 = .ok (.aload_n 0, 1) := by decide +kernel
theorem dX9_init_180 : decode cX9_init 180 = .ok (.bipush 8, 2) := by decide +kernel
theorem dX9_init_182 : decode cX9_init 182 = .ok (.newarray .boolean, 2) := by decide +kernel
theorem dX9_init_184 : decode cX9_init 184 = .ok (.putfield 77, 3) := by decide +kernel
theorem dX9_init_187 : decode cX9_init 187 = .ok (.aload_n 0, 1) := by decide +kernel
theorem dX9_init_188 : decode cX9_init 188 = .ok (.iconst 4, 1) := by decide +kernel
theorem dX9_init_189 : decode cX9_init 189 = .ok (.newarray .int, 2) := by decide +kernel
theorem dX9_init_191 : decode cX9_init 191 = .ok (.putfield 80, 3) := by decide +kernel
theorem dX9_init_194 : decode cX9_init 194 = .ok (.aload_n 0, 1) := by decide +kernel
theorem dX9_init_195 : decode cX9_init 195 = .ok (.iconst 4, 1) := by decide +kernel
theorem dX9_init_196 : decode cX9_init 196 = .ok (.newarray .int, 2) := by decide +kernel
theorem dX9_init_198 : decode cX9_init 198 = .ok (.putfield 83, 3) := by decide +kernel
theorem dX9_init_201 : decode cX9_init 201 = .ok (.aload_n 0, 1) := by decide +kernel
theorem dX9_init_202 : decode cX9_init 202 = .ok (.sipush 240, 3) := by decide +kernel
theorem dX9_init_205 : decode cX9_init 205 = .ok (.newarray .int, 2) := by decide +kernel
theorem dX9_init_207 : decode cX9_init 207 = .ok (.putfield 86, 3) := by decide +kernel
theorem dX9_init_210 : decode cX9_init 210 = .ok (.aload_n 0, 1) := by decide +kernel
theorem dX9_init_211 : decode cX9_init 211 = .ok (.bipush 60, 2) := by decide +kernel
theorem dX9_init_213 : decode cX9_init 213 = .ok (.newarray .int, 2) := by decide +kernel
theorem dX9_init_215 : decode cX9_init 215 = .ok (.putfield 89, 3) := by decide +kernel
theorem dX9_init_218 : decode cX9_init 218 = .ok (.iconst 0, 1) := by decide +kernel
theorem dX9_init_219 : decode cX9_init 219 = .ok (.istore_n 1, 1) := by decide +kernel
theorem dX9_init_220 : decode cX9_init 220 = .ok (.iload_n 1, 1) := by decide +kernel
theorem dX9_init_221 : decode cX9_init 221 = .ok (.iconst 4, 1) := by decide +kernel
theorem dX9_init_222 : decode cX9_init 222 = .ok (.if_icmp .ge 16, 3) := by decide +kernel
theorem dX9_init_225 : decode cX9_init 225 = .ok (.aload_n 0, 1) := by decide +kernel
theorem dX9_init_226 : decode cX9_init 226 = .ok (.getfield 80, 3) := by decide +kernel
theorem dX9_init_229 : decode cX9_init 229 = .ok (.iload_n 1, 1) := by decide +kernel
theorem dX9_init_230 : decode cX9_init 230 = .ok (.iconst (-1), 1) := by decide +kernel
theorem dX9_init_231 : decode cX9_init 231 = .ok (.iastore, 1) := by decide +kernel
theorem dX9_init_232 : decode cX9_init 232 = .ok (.iinc 1 1, 3) := by decide +kernel
theorem dX9_init_235 : decode cX9_init 235 = .ok (.goto (-15), 3) := by decide +kernel
theorem dX9_init_238 : decode cX9_init 238 = .ok (.return_, 1) := by decide +kernel
theorem dX9_in_0 : decode cX9_in 0 = .ok (.lload_n 0, 1) := by decide +kernel
theorem dX9_in_1 : decode cX9_in 1 = .ok (.lload_n 2, 1) := by decide +kernel
theorem dX9_in_2 : decode cX9_in 2 = .ok (.lcmp, 1) := by decide +kernel
theorem dX9_in_3 : decode cX9_in 3 = .ok (.ifCond .lt 14, 3) := by decide +kernel
theorem dX9_in_6 : decode cX9_in 6 = .ok (.lload_n 0, 1) := by decide +kernel
theorem dX9_in_7 : decode cX9_in 7 = .ok (.lload 4, 2) := by decide +kernel
theorem dX9_in_9 : decode cX9_in 9 = .ok (.lcmp, 1) := by decide +kernel
theorem dX9_in_10 : decode cX9_in 10 = .ok (.ifCond .gt 7, 3) := by decide +kernel
theorem dX9_in_13 : decode cX9_in 13 = .ok (.iconst 1, 1) := by decide +kernel
theorem dX9_in_14 : decode cX9_in 14 = .ok (.goto 4, 3) := by decide +kernel
theorem dX9_in_17 : decode cX9_in 17 = .ok (.iconst 0, 1) := by decide +kernel
theorem dX9_in_18 : decode cX9_in 18 = .ok (.ireturn, 1) := by decide +kernel
theorem dX9_lost_0 : decode cX9_lost 0 = .ok (.ldc2_w 92, 3) := by decide +kernel
theorem dX9_lost_3 : decode cX9_lost 3 = .ok (.lreturn, 1) := by decide +kernel
theorem dX9_isIn_0 : decode cX9_isIn 0 = .ok (.iload_n 0, 1) := by decide +kernel
theorem dX9_isIn_1 : decode cX9_isIn 1 = .ok (.iload_n 1, 1) := by decide +kernel
theorem dX9_isIn_2 : decode cX9_isIn 2 = .ok (.ishr, 1) := by decide +kernel
theorem dX9_isIn_3 : decode cX9_isIn 3 = .ok (.iconst 1, 1) := by decide +kernel
theorem dX9_isIn_4 : decode cX9_isIn 4 = .ok (.iand, 1) := by decide +kernel
theorem dX9_isIn_5 : decode cX9_isIn 5 = .ok (.iconst 1, 1) := by decide +kernel
theorem dX9_isIn_6 : decode cX9_isIn 6 = .ok (.if_icmp .ne 7, 3) := by decide +kernel
theorem dX9_isIn_9 : decode cX9_isIn 9 = .ok (.iconst 1, 1) := by decide +kernel
theorem dX9_isIn_10 : decode cX9_isIn 10 = .ok (.goto 4, 3) := by decide +kernel
theorem dX9_isIn_13 : decode cX9_isIn 13 = .ok (.iconst 0, 1) := by decide +kernel
theorem dX9_isIn_14 : decode cX9_isIn 14 = .ok (.ireturn, 1) := by decide +kernel
theorem dX9_bits_0 : decode cX9_bits 0 = .ok (.iconst 0, 1) := by decide +kernel
theorem dX9_bits_1 : decode cX9_bits 1 = .ok (.istore_n 1, 1) := by decide +kernel
theorem dX9_bits_2 : decode cX9_bits 2 = .ok (.iload_n 0, 1) := by decide +kernel
theorem dX9_bits_3 : decode cX9_bits 3 = .ok (.istore_n 2, 1) := by decide +kernel
theorem dX9_bits_4 : decode cX9_bits 4 = .ok (.iload_n 2, 1) := by decide +kernel
theorem dX9_bits_5 : decode cX9_bits 5 = .ok (.ifCond .le 16, 3) := by decide +kernel
theorem dX9_bits_8 : decode cX9_bits 8 = .ok (.iload_n 1, 1) := by decide +kernel
theorem dX9_bits_9 : decode cX9_bits 9 = .ok (.iload_n 2, 1) := by decide +kernel
theorem dX9_bits_10 : decode cX9_bits 10 = .ok (.iconst 1, 1) := by decide +kernel
theorem dX9_bits_11 : decode cX9_bits 11 = .ok (.iand, 1) := by decide +kernel
theorem dX9_bits_12 : decode cX9_bits 12 = .ok (.iadd, 1) := by decide +kernel
theorem dX9_bits_13 : decode cX9_bits 13 = .ok (.istore_n 1, 1) := by decide +kernel
theorem dX9_bits_14 : decode cX9_bits 14 = .ok (.iload_n 2, 1) := by decide +kernel
theorem dX9_bits_15 : decode cX9_bits 15 = .ok (.iconst 1, 1) := by decide +kernel
theorem dX9_bits_16 : decode cX9_bits 16 = .ok (.ishr, 1) := by decide +kernel
theorem dX9_bits_17 : decode cX9_bits 17 = .ok (.istore_n 2, 1) := by decide +kernel
theorem dX9_bits_18 : decode cX9_bits 18 = .ok (.goto (-14), 3) := by decide +kernel
theorem dX9_bits_21 : decode cX9_bits 21 = .ok (.iload_n 1, 1) := by decide +kernel
theorem dX9_bits_22 : decode cX9_bits 22 = .ok (.ireturn, 1) := by decide +kernel
theorem dX9_shareOf_0 : decode cX9_shareOf 0 = .ok (.lload_n 0, 1) := by decide +kernel
theorem dX9_shareOf_1 : decode cX9_shareOf 1 = .ok (.lstore 5, 2) := by decide +kernel
theorem dX9_shareOf_3 : decode cX9_shareOf 3 = .ok (.lload_n 2, 1) := by decide +kernel
theorem dX9_shareOf_4 : decode cX9_shareOf 4 = .ok (.lstore 7, 2) := by decide +kernel
theorem dX9_shareOf_6 : decode cX9_shareOf 6 = .ok (.lload 7, 2) := by decide +kernel
theorem dX9_shareOf_8 : decode cX9_shareOf 8 = .ok (.lconst 0, 1) := by decide +kernel
theorem dX9_shareOf_9 : decode cX9_shareOf 9 = .ok (.lcmp, 1) := by decide +kernel
theorem dX9_shareOf_10 : decode cX9_shareOf 10 = .ok (.ifCond .eq 21, 3) := by decide +kernel
theorem dX9_shareOf_13 : decode cX9_shareOf 13 = .ok (.lload 5, 2) := by decide +kernel
theorem dX9_shareOf_15 : decode cX9_shareOf 15 = .ok (.lload 7, 2) := by decide +kernel
theorem dX9_shareOf_17 : decode cX9_shareOf 17 = .ok (.lrem, 1) := by decide +kernel
theorem dX9_shareOf_18 : decode cX9_shareOf 18 = .ok (.lstore 9, 2) := by decide +kernel
theorem dX9_shareOf_20 : decode cX9_shareOf 20 = .ok (.lload 7, 2) := by decide +kernel
theorem dX9_shareOf_22 : decode cX9_shareOf 22 = .ok (.lstore 5, 2) := by decide +kernel
theorem dX9_shareOf_24 : decode cX9_shareOf 24 = .ok (.lload 9, 2) := by decide +kernel
theorem dX9_shareOf_26 : decode cX9_shareOf 26 = .ok (.lstore 7, 2) := by decide +kernel
theorem dX9_shareOf_28 : decode cX9_shareOf 28 = .ok (.goto (-22), 3) := by decide +kernel
theorem dX9_shareOf_31 : decode cX9_shareOf 31 = .ok (.iload 4, 2) := by decide +kernel
theorem dX9_shareOf_33 : decode cX9_shareOf 33 = .ok (.ifCond .ne 7, 3) := by decide +kernel
theorem dX9_shareOf_36 : decode cX9_shareOf 36 = .ok (.lload_n 0, 1) := by decide +kernel
theorem dX9_shareOf_37 : decode cX9_shareOf 37 = .ok (.goto 4, 3) := by decide +kernel
theorem dX9_shareOf_40 : decode cX9_shareOf 40 = .ok (.lload_n 2, 1) := by decide +kernel
theorem dX9_shareOf_41 : decode cX9_shareOf 41 = .ok (.lload 5, 2) := by decide +kernel
theorem dX9_shareOf_43 : decode cX9_shareOf 43 = .ok (.ldiv, 1) := by decide +kernel
theorem dX9_shareOf_44 : decode cX9_shareOf 44 = .ok (.lreturn, 1) := by decide +kernel
theorem dX9_refused_0 : decode cX9_refused 0 = .ok (.aload_n 0, 1) := by decide +kernel
theorem dX9_refused_1 : decode cX9_refused 1 = .ok (.iconst 0, 1) := by decide +kernel
theorem dX9_refused_2 : decode cX9_refused 2 = .ok (.putfield 94, 3) := by decide +kernel
theorem dX9_refused_5 : decode cX9_refused 5 = .ok (.iload_n 1, 1) := by decide +kernel
theorem dX9_refused_6 : decode cX9_refused 6 = .ok (.ireturn, 1) := by decide +kernel
theorem dX9_failed_0 : decode cX9_failed 0 = .ok (.aload_n 0, 1) := by decide +kernel
theorem dX9_failed_1 : decode cX9_failed 1 = .ok (.iload_n 1, 1) := by decide +kernel
theorem dX9_failed_2 : decode cX9_failed 2 = .ok (.putfield 94, 3) := by decide +kernel
theorem dX9_failed_5 : decode cX9_failed 5 = .ok (.bipush (-10), 2) := by decide +kernel
theorem dX9_failed_7 : decode cX9_failed 7 = .ok (.iload_n 1, 1) := by decide +kernel
theorem dX9_failed_8 : decode cX9_failed 8 = .ok (.isub, 1) := by decide +kernel
theorem dX9_failed_9 : decode cX9_failed 9 = .ok (.ireturn, 1) := by decide +kernel
set_option maxRecDepth 20000 in
theorem ggX9_failedLong_X9_lost : GoodIn wsX9_failedLong wsX9_lost := goodIn_r _ [5, 6] (by decide +kernel) (by decide +kernel)
set_option maxRecDepth 20000 in
theorem gX9_failedLong_X9_lost : GoodIn wsX9_failedLong (va_wsS RX9 98 yX9_lost wsX9_lost) := goodIn_app (goodIn_of _ (by decide +kernel)) ggX9_failedLong_X9_lost
theorem dX9_failedLong_0 : decode cX9_failedLong 0 = .ok (.aload_n 0, 1) := by decide +kernel
theorem dX9_failedLong_1 : decode cX9_failedLong 1 = .ok (.iload_n 1, 1) := by decide +kernel
theorem dX9_failedLong_2 : decode cX9_failedLong 2 = .ok (.putfield 94, 3) := by decide +kernel
theorem dX9_failedLong_5 : decode cX9_failedLong 5 = .ok (.invokestatic 98, 3) := by decide +kernel
theorem dX9_failedLong_8 : decode cX9_failedLong 8 = .ok (.lreturn, 1) := by decide +kernel
set_option maxRecDepth 20000 in
theorem ggX9_noPerson_X9_in : GoodIn wsX9_noPerson wsX9_in := goodIn_r _ [5] (by decide +kernel) (by decide +kernel)
set_option maxRecDepth 20000 in
theorem gX9_noPerson_X9_in : GoodIn wsX9_noPerson (va_wsS RX9 105 yX9_in wsX9_in) := goodIn_app (goodIn_of _ (by decide +kernel)) ggX9_noPerson_X9_in
theorem dX9_noPerson_0 : decode cX9_noPerson 0 = .ok (.iload_n 1, 1) := by decide +kernel
theorem dX9_noPerson_1 : decode cX9_noPerson 1 = .ok (.i2l, 1) := by decide +kernel
theorem dX9_noPerson_2 : decode cX9_noPerson 2 = .ok (.lconst 0, 1) := by decide +kernel
theorem dX9_noPerson_3 : decode cX9_noPerson 3 = .ok (.aload_n 0, 1) := by decide +kernel
theorem dX9_noPerson_4 : decode cX9_noPerson 4 = .ok (.getfield 102, 3) := by decide +kernel
theorem dX9_noPerson_7 : decode cX9_noPerson 7 = .ok (.i2l, 1) := by decide +kernel
theorem dX9_noPerson_8 : decode cX9_noPerson 8 = .ok (.lconst 1, 1) := by decide +kernel
theorem dX9_noPerson_9 : decode cX9_noPerson 9 = .ok (.lsub, 1) := by decide +kernel
theorem dX9_noPerson_10 : decode cX9_noPerson 10 = .ok (.invokestatic 105, 3) := by decide +kernel
theorem dX9_noPerson_13 : decode cX9_noPerson 13 = .ok (.ifCond .ne 7, 3) := by decide +kernel
theorem dX9_noPerson_16 : decode cX9_noPerson 16 = .ok (.iconst 1, 1) := by decide +kernel
theorem dX9_noPerson_17 : decode cX9_noPerson 17 = .ok (.goto 4, 3) := by decide +kernel
theorem dX9_noPerson_20 : decode cX9_noPerson 20 = .ok (.iconst 0, 1) := by decide +kernel
theorem dX9_noPerson_21 : decode cX9_noPerson 21 = .ok (.ireturn, 1) := by decide +kernel
set_option maxRecDepth 20000 in
theorem ggX9_noTale_X9_in : GoodIn wsX9_noTale wsX9_in := goodIn_r _ [5] (by decide +kernel) (by decide +kernel)
set_option maxRecDepth 20000 in
theorem gX9_noTale_X9_in : GoodIn wsX9_noTale (va_wsS RX9 105 yX9_in wsX9_in) := goodIn_app (goodIn_of _ (by decide +kernel)) ggX9_noTale_X9_in
theorem dX9_noTale_0 : decode cX9_noTale 0 = .ok (.iload_n 1, 1) := by decide +kernel
theorem dX9_noTale_1 : decode cX9_noTale 1 = .ok (.i2l, 1) := by decide +kernel
theorem dX9_noTale_2 : decode cX9_noTale 2 = .ok (.lconst 0, 1) := by decide +kernel
theorem dX9_noTale_3 : decode cX9_noTale 3 = .ok (.aload_n 0, 1) := by decide +kernel
theorem dX9_noTale_4 : decode cX9_noTale 4 = .ok (.getfield 109, 3) := by decide +kernel
theorem dX9_noTale_7 : decode cX9_noTale 7 = .ok (.i2l, 1) := by decide +kernel
theorem dX9_noTale_8 : decode cX9_noTale 8 = .ok (.lconst 1, 1) := by decide +kernel
theorem dX9_noTale_9 : decode cX9_noTale 9 = .ok (.lsub, 1) := by decide +kernel
theorem dX9_noTale_10 : decode cX9_noTale 10 = .ok (.invokestatic 105, 3) := by decide +kernel
theorem dX9_noTale_13 : decode cX9_noTale 13 = .ok (.ifCond .ne 7, 3) := by decide +kernel
theorem dX9_noTale_16 : decode cX9_noTale 16 = .ok (.iconst 1, 1) := by decide +kernel
theorem dX9_noTale_17 : decode cX9_noTale 17 = .ok (.goto 4, 3) := by decide +kernel
theorem dX9_noTale_20 : decode cX9_noTale 20 = .ok (.iconst 0, 1) := by decide +kernel
theorem dX9_noTale_21 : decode cX9_noTale 21 = .ok (.ireturn, 1) := by decide +kernel
set_option maxRecDepth 20000 in
theorem ggX9_noDeed_X9_in : GoodIn wsX9_noDeed wsX9_in := goodIn_r _ [5] (by decide +kernel) (by decide +kernel)
set_option maxRecDepth 20000 in
theorem gX9_noDeed_X9_in : GoodIn wsX9_noDeed (va_wsS RX9 105 yX9_in wsX9_in) := goodIn_app (goodIn_of _ (by decide +kernel)) ggX9_noDeed_X9_in
theorem dX9_noDeed_0 : decode cX9_noDeed 0 = .ok (.iload_n 0, 1) := by decide +kernel
theorem dX9_noDeed_1 : decode cX9_noDeed 1 = .ok (.i2l, 1) := by decide +kernel
theorem dX9_noDeed_2 : decode cX9_noDeed 2 = .ok (.lconst 0, 1) := by decide +kernel
theorem dX9_noDeed_3 : decode cX9_noDeed 3 = .ok (.ldc2_w 112, 3) := by decide +kernel
theorem dX9_noDeed_6 : decode cX9_noDeed 6 = .ok (.invokestatic 105, 3) := by decide +kernel
theorem dX9_noDeed_9 : decode cX9_noDeed 9 = .ok (.ifCond .ne 7, 3) := by decide +kernel
theorem dX9_noDeed_12 : decode cX9_noDeed 12 = .ok (.iconst 1, 1) := by decide +kernel
theorem dX9_noDeed_13 : decode cX9_noDeed 13 = .ok (.goto 4, 3) := by decide +kernel
theorem dX9_noDeed_16 : decode cX9_noDeed 16 = .ok (.iconst 0, 1) := by decide +kernel
theorem dX9_noDeed_17 : decode cX9_noDeed 17 = .ok (.ireturn, 1) := by decide +kernel
set_option maxRecDepth 20000 in
theorem ggX9_noHearth_X9_in : GoodIn wsX9_noHearth wsX9_in := goodIn_r _ [5] (by decide +kernel) (by decide +kernel)
set_option maxRecDepth 20000 in
theorem gX9_noHearth_X9_in : GoodIn wsX9_noHearth (va_wsS RX9 105 yX9_in wsX9_in) := goodIn_app (goodIn_of _ (by decide +kernel)) ggX9_noHearth_X9_in
theorem dX9_noHearth_0 : decode cX9_noHearth 0 = .ok (.iload_n 0, 1) := by decide +kernel
theorem dX9_noHearth_1 : decode cX9_noHearth 1 = .ok (.i2l, 1) := by decide +kernel
theorem dX9_noHearth_2 : decode cX9_noHearth 2 = .ok (.lconst 0, 1) := by decide +kernel
theorem dX9_noHearth_3 : decode cX9_noHearth 3 = .ok (.ldc2_w 114, 3) := by decide +kernel
theorem dX9_noHearth_6 : decode cX9_noHearth 6 = .ok (.invokestatic 105, 3) := by decide +kernel
theorem dX9_noHearth_9 : decode cX9_noHearth 9 = .ok (.ifCond .ne 7, 3) := by decide +kernel
theorem dX9_noHearth_12 : decode cX9_noHearth 12 = .ok (.iconst 1, 1) := by decide +kernel
theorem dX9_noHearth_13 : decode cX9_noHearth 13 = .ok (.goto 4, 3) := by decide +kernel
theorem dX9_noHearth_16 : decode cX9_noHearth 16 = .ok (.iconst 0, 1) := by decide +kernel
theorem dX9_noHearth_17 : decode cX9_noHearth 17 = .ok (.ireturn, 1) := by decide +kernel
set_option maxRecDepth 20000 in
theorem ggX9_isSeason_X9_in : GoodIn wsX9_isSeason wsX9_in := goodIn_r _ [5] (by decide +kernel) (by decide +kernel)
set_option maxRecDepth 20000 in
theorem gX9_isSeason_X9_in : GoodIn wsX9_isSeason (va_wsS RX9 105 yX9_in wsX9_in) := goodIn_app (goodIn_of _ (by decide +kernel)) ggX9_isSeason_X9_in
theorem dX9_isSeason_0 : decode cX9_isSeason 0 = .ok (.iload_n 0, 1) := by decide +kernel
theorem dX9_isSeason_1 : decode cX9_isSeason 1 = .ok (.i2l, 1) := by decide +kernel
theorem dX9_isSeason_2 : decode cX9_isSeason 2 = .ok (.lconst 0, 1) := by decide +kernel
theorem dX9_isSeason_3 : decode cX9_isSeason 3 = .ok (.ldc2_w 116, 3) := by decide +kernel
theorem dX9_isSeason_6 : decode cX9_isSeason 6 = .ok (.invokestatic 105, 3) := by decide +kernel
theorem dX9_isSeason_9 : decode cX9_isSeason 9 = .ok (.ireturn, 1) := by decide +kernel
theorem dX9_all_0 : decode cX9_all 0 = .ok (.iconst 1, 1) := by decide +kernel
theorem dX9_all_1 : decode cX9_all 1 = .ok (.aload_n 0, 1) := by decide +kernel
theorem dX9_all_2 : decode cX9_all 2 = .ok (.getfield 102, 3) := by decide +kernel
theorem dX9_all_5 : decode cX9_all 5 = .ok (.ishl, 1) := by decide +kernel
theorem dX9_all_6 : decode cX9_all 6 = .ok (.iconst 1, 1) := by decide +kernel
theorem dX9_all_7 : decode cX9_all 7 = .ok (.isub, 1) := by decide +kernel
theorem dX9_all_8 : decode cX9_all 8 = .ok (.ireturn, 1) := by decide +kernel
theorem dX9_codeAt_0 : decode cX9_codeAt 0 = .ok (.aload_n 0, 1) := by decide +kernel
theorem dX9_codeAt_1 : decode cX9_codeAt 1 = .ok (.getfield 118, 3) := by decide +kernel
theorem dX9_codeAt_4 : decode cX9_codeAt 4 = .ok (.iload_n 2, 1) := by decide +kernel
theorem dX9_codeAt_5 : decode cX9_codeAt 5 = .ok (.if_icmp .ge 17, 3) := by decide +kernel
theorem dX9_codeAt_8 : decode cX9_codeAt 8 = .ok (.aload_n 0, 1) := by decide +kernel
theorem dX9_codeAt_9 : decode cX9_codeAt 9 = .ok (.getfield 86, 3) := by decide +kernel
theorem dX9_codeAt_12 : decode cX9_codeAt 12 = .ok (.iload_n 1, 1) := by decide +kernel
theorem dX9_codeAt_13 : decode cX9_codeAt 13 = .ok (.aload_n 0, 1) := by decide +kernel
theorem dX9_codeAt_14 : decode cX9_codeAt 14 = .ok (.getfield 118, 3) := by decide +kernel
theorem dX9_codeAt_17 : decode cX9_codeAt 17 = .ok (.iadd, 1) := by decide +kernel
theorem dX9_codeAt_18 : decode cX9_codeAt 18 = .ok (.iaload, 1) := by decide +kernel
theorem dX9_codeAt_19 : decode cX9_codeAt 19 = .ok (.goto 5, 3) := by decide +kernel
theorem dX9_codeAt_22 : decode cX9_codeAt 22 = .ok (.bipush (-9), 2) := by decide +kernel
theorem dX9_codeAt_24 : decode cX9_codeAt 24 = .ok (.ireturn, 1) := by decide +kernel
set_option maxRecDepth 20000 in
theorem ggX9_figure_X9_codeAt : GoodIn wsX9_figure wsX9_codeAt := goodIn_r _ [6, 1, 7, 11, 12, 13, 14, 15, 16, 17, 18, 19, 20, 21, 22, 23, 24, 25, 26, 27, 28, 29, 30, 31, 32, 33, 34, 35, 36, 37, 38, 39, 40, 41, 42, 43, 44, 45, 46, 47, 48] (by decide +kernel) (by decide +kernel)
set_option maxRecDepth 20000 in
theorem gX9_figure_X9_codeAt : GoodIn wsX9_figure (wsV RX9 121 RX9 yX9_codeAt wsX9_codeAt) := goodIn_app (goodIn_of _ (by decide +kernel)) ggX9_figure_X9_codeAt
set_option maxRecDepth 20000 in
theorem ggX9_figure_X9_in : GoodIn wsX9_figure wsX9_in := goodIn_r _ [10] (by decide +kernel) (by decide +kernel)
set_option maxRecDepth 20000 in
theorem gX9_figure_X9_in : GoodIn wsX9_figure (va_wsS RX9 105 yX9_in wsX9_in) := goodIn_app (goodIn_of _ (by decide +kernel)) ggX9_figure_X9_in
theorem dX9_figure_0 : decode cX9_figure 0 = .ok (.aload_n 0, 1) := by decide +kernel
theorem dX9_figure_1 : decode cX9_figure 1 = .ok (.iload_n 1, 1) := by decide +kernel
theorem dX9_figure_2 : decode cX9_figure 2 = .ok (.iload_n 2, 1) := by decide +kernel
theorem dX9_figure_3 : decode cX9_figure 3 = .ok (.invokevirtual 121, 3) := by decide +kernel
theorem dX9_figure_6 : decode cX9_figure 6 = .ok (.bipush 48, 2) := by decide +kernel
theorem dX9_figure_8 : decode cX9_figure 8 = .ok (.isub, 1) := by decide +kernel
theorem dX9_figure_9 : decode cX9_figure 9 = .ok (.istore 5, 2) := by decide +kernel
theorem dX9_figure_11 : decode cX9_figure 11 = .ok (.iload 5, 2) := by decide +kernel
theorem dX9_figure_13 : decode cX9_figure 13 = .ok (.i2l, 1) := by decide +kernel
theorem dX9_figure_14 : decode cX9_figure 14 = .ok (.iload_n 3, 1) := by decide +kernel
theorem dX9_figure_15 : decode cX9_figure 15 = .ok (.i2l, 1) := by decide +kernel
theorem dX9_figure_16 : decode cX9_figure 16 = .ok (.iload 4, 2) := by decide +kernel
theorem dX9_figure_18 : decode cX9_figure 18 = .ok (.i2l, 1) := by decide +kernel
theorem dX9_figure_19 : decode cX9_figure 19 = .ok (.invokestatic 105, 3) := by decide +kernel
theorem dX9_figure_22 : decode cX9_figure 22 = .ok (.istore 6, 2) := by decide +kernel
theorem dX9_figure_24 : decode cX9_figure 24 = .ok (.aload_n 0, 1) := by decide +kernel
theorem dX9_figure_25 : decode cX9_figure 25 = .ok (.dup, 1) := by decide +kernel
theorem dX9_figure_26 : decode cX9_figure 26 = .ok (.getfield 118, 3) := by decide +kernel
theorem dX9_figure_29 : decode cX9_figure 29 = .ok (.iload 6, 2) := by decide +kernel
theorem dX9_figure_31 : decode cX9_figure 31 = .ok (.ifCond .eq 7, 3) := by decide +kernel
theorem dX9_figure_34 : decode cX9_figure 34 = .ok (.iconst 1, 1) := by decide +kernel
theorem dX9_figure_35 : decode cX9_figure 35 = .ok (.goto 4, 3) := by decide +kernel
theorem dX9_figure_38 : decode cX9_figure 38 = .ok (.iconst 0, 1) := by decide +kernel
theorem dX9_figure_39 : decode cX9_figure 39 = .ok (.iadd, 1) := by decide +kernel
theorem dX9_figure_40 : decode cX9_figure 40 = .ok (.putfield 118, 3) := by decide +kernel
theorem dX9_figure_43 : decode cX9_figure 43 = .ok (.iload 6, 2) := by decide +kernel
theorem dX9_figure_45 : decode cX9_figure 45 = .ok (.ifCond .eq 8, 3) := by decide +kernel
theorem dX9_figure_48 : decode cX9_figure 48 = .ok (.iload 5, 2) := by decide +kernel
theorem dX9_figure_50 : decode cX9_figure 50 = .ok (.goto 5, 3) := by decide +kernel
theorem dX9_figure_53 : decode cX9_figure 53 = .ok (.bipush (-9), 2) := by decide +kernel
theorem dX9_figure_55 : decode cX9_figure 55 = .ok (.ireturn, 1) := by decide +kernel
set_option maxRecDepth 20000 in
theorem ggX9_readsPerson_X9_codeAt : GoodIn wsX9_readsPerson wsX9_codeAt := goodIn_r _ [10, 2, 11, 19, 20, 21, 22, 23, 24, 25, 26, 27, 28, 29, 30, 31, 32, 33, 34, 35, 36, 37, 38, 39, 40, 41, 42, 43, 44, 45, 46, 47, 48, 49, 50, 51, 52, 53, 54, 55, 56] (by decide +kernel) (by decide +kernel)
set_option maxRecDepth 20000 in
theorem gX9_readsPerson_X9_codeAt : GoodIn wsX9_readsPerson (wsV RX9 121 RX9 yX9_codeAt wsX9_codeAt) := goodIn_app (goodIn_of _ (by decide +kernel)) ggX9_readsPerson_X9_codeAt
set_option maxRecDepth 20000 in
theorem ggX9_readsPerson_X9_figure : GoodIn wsX9_readsPerson wsX9_figure := goodIn_r _ [15, 2, 6, 7, 8, 9, 10, 11, 16, 17, 18, 19, 20, 21, 22, 23, 24, 25, 26, 27, 28, 29, 30, 31, 32, 33, 34, 35, 36, 37, 38, 39, 40, 41, 42, 43, 44, 45, 46, 47, 48, 49, 50, 51, 52, 53, 54, 55, 56] (by decide +kernel) (by decide +kernel)
set_option maxRecDepth 20000 in
theorem gX9_readsPerson_X9_figure : GoodIn wsX9_readsPerson (wsV RX9 128 RX9 yX9_figure wsX9_figure) := goodIn_app (goodIn_of _ (by decide +kernel)) ggX9_readsPerson_X9_figure
theorem dX9_readsPerson_0 : decode cX9_readsPerson 0 = .ok (.aload_n 0, 1) := by decide +kernel
theorem dX9_readsPerson_1 : decode cX9_readsPerson 1 = .ok (.getfield 125, 3) := by decide +kernel
theorem dX9_readsPerson_4 : decode cX9_readsPerson 4 = .ok (.bipush 6, 2) := by decide +kernel
theorem dX9_readsPerson_6 : decode cX9_readsPerson 6 = .ok (.if_icmp .eq 14, 3) := by decide +kernel
theorem dX9_readsPerson_9 : decode cX9_readsPerson 9 = .ok (.aload_n 0, 1) := by decide +kernel
theorem dX9_readsPerson_10 : decode cX9_readsPerson 10 = .ok (.iload_n 1, 1) := by decide +kernel
theorem dX9_readsPerson_11 : decode cX9_readsPerson 11 = .ok (.iload_n 2, 1) := by decide +kernel
theorem dX9_readsPerson_12 : decode cX9_readsPerson 12 = .ok (.invokevirtual 121, 3) := by decide +kernel
theorem dX9_readsPerson_15 : decode cX9_readsPerson 15 = .ok (.bipush 59, 2) := by decide +kernel
theorem dX9_readsPerson_17 : decode cX9_readsPerson 17 = .ok (.if_icmp .eq 5, 3) := by decide +kernel
theorem dX9_readsPerson_20 : decode cX9_readsPerson 20 = .ok (.iconst 0, 1) := by decide +kernel
theorem dX9_readsPerson_21 : decode cX9_readsPerson 21 = .ok (.ireturn, 1) := by decide +kernel
theorem dX9_readsPerson_22 : decode cX9_readsPerson 22 = .ok (.aload_n 0, 1) := by decide +kernel
theorem dX9_readsPerson_23 : decode cX9_readsPerson 23 = .ok (.dup, 1) := by decide +kernel
theorem dX9_readsPerson_24 : decode cX9_readsPerson 24 = .ok (.getfield 118, 3) := by decide +kernel
theorem dX9_readsPerson_27 : decode cX9_readsPerson 27 = .ok (.iconst 1, 1) := by decide +kernel
theorem dX9_readsPerson_28 : decode cX9_readsPerson 28 = .ok (.iadd, 1) := by decide +kernel
theorem dX9_readsPerson_29 : decode cX9_readsPerson 29 = .ok (.putfield 118, 3) := by decide +kernel
theorem dX9_readsPerson_32 : decode cX9_readsPerson 32 = .ok (.aload_n 0, 1) := by decide +kernel
theorem dX9_readsPerson_33 : decode cX9_readsPerson 33 = .ok (.iload_n 1, 1) := by decide +kernel
theorem dX9_readsPerson_34 : decode cX9_readsPerson 34 = .ok (.iload_n 2, 1) := by decide +kernel
theorem dX9_readsPerson_35 : decode cX9_readsPerson 35 = .ok (.invokevirtual 121, 3) := by decide +kernel
theorem dX9_readsPerson_38 : decode cX9_readsPerson 38 = .ok (.istore_n 3, 1) := by decide +kernel
theorem dX9_readsPerson_39 : decode cX9_readsPerson 39 = .ok (.iload_n 3, 1) := by decide +kernel
theorem dX9_readsPerson_40 : decode cX9_readsPerson 40 = .ok (.bipush 104, 2) := by decide +kernel
theorem dX9_readsPerson_42 : decode cX9_readsPerson 42 = .ok (.if_icmp .eq 17, 3) := by decide +kernel
theorem dX9_readsPerson_45 : decode cX9_readsPerson 45 = .ok (.iload_n 3, 1) := by decide +kernel
theorem dX9_readsPerson_46 : decode cX9_readsPerson 46 = .ok (.bipush 98, 2) := by decide +kernel
theorem dX9_readsPerson_48 : decode cX9_readsPerson 48 = .ok (.if_icmp .eq 11, 3) := by decide +kernel
theorem dX9_readsPerson_51 : decode cX9_readsPerson 51 = .ok (.iload_n 3, 1) := by decide +kernel
theorem dX9_readsPerson_52 : decode cX9_readsPerson 52 = .ok (.bipush 103, 2) := by decide +kernel
theorem dX9_readsPerson_54 : decode cX9_readsPerson 54 = .ok (.if_icmp .eq 5, 3) := by decide +kernel
theorem dX9_readsPerson_57 : decode cX9_readsPerson 57 = .ok (.iconst 0, 1) := by decide +kernel
theorem dX9_readsPerson_58 : decode cX9_readsPerson 58 = .ok (.ireturn, 1) := by decide +kernel
theorem dX9_readsPerson_59 : decode cX9_readsPerson 59 = .ok (.aload_n 0, 1) := by decide +kernel
theorem dX9_readsPerson_60 : decode cX9_readsPerson 60 = .ok (.dup, 1) := by decide +kernel
theorem dX9_readsPerson_61 : decode cX9_readsPerson 61 = .ok (.getfield 118, 3) := by decide +kernel
theorem dX9_readsPerson_64 : decode cX9_readsPerson 64 = .ok (.iconst 1, 1) := by decide +kernel
theorem dX9_readsPerson_65 : decode cX9_readsPerson 65 = .ok (.iadd, 1) := by decide +kernel
theorem dX9_readsPerson_66 : decode cX9_readsPerson 66 = .ok (.putfield 118, 3) := by decide +kernel
theorem dX9_readsPerson_69 : decode cX9_readsPerson 69 = .ok (.aload_n 0, 1) := by decide +kernel
theorem dX9_readsPerson_70 : decode cX9_readsPerson 70 = .ok (.iload_n 1, 1) := by decide +kernel
theorem dX9_readsPerson_71 : decode cX9_readsPerson 71 = .ok (.iload_n 2, 1) := by decide +kernel
theorem dX9_readsPerson_72 : decode cX9_readsPerson 72 = .ok (.iconst 1, 1) := by decide +kernel
theorem dX9_readsPerson_73 : decode cX9_readsPerson 73 = .ok (.iconst 5, 1) := by decide +kernel
theorem dX9_readsPerson_74 : decode cX9_readsPerson 74 = .ok (.invokevirtual 128, 3) := by decide +kernel
theorem dX9_readsPerson_77 : decode cX9_readsPerson 77 = .ok (.istore 4, 2) := by decide +kernel
theorem dX9_readsPerson_79 : decode cX9_readsPerson 79 = .ok (.iload 4, 2) := by decide +kernel
theorem dX9_readsPerson_81 : decode cX9_readsPerson 81 = .ok (.ifCond .ge 8, 3) := by decide +kernel
theorem dX9_readsPerson_84 : decode cX9_readsPerson 84 = .ok (.bipush (-9), 2) := by decide +kernel
theorem dX9_readsPerson_86 : decode cX9_readsPerson 86 = .ok (.goto 11, 3) := by decide +kernel
theorem dX9_readsPerson_89 : decode cX9_readsPerson 89 = .ok (.aload_n 0, 1) := by decide +kernel
theorem dX9_readsPerson_90 : decode cX9_readsPerson 90 = .ok (.iload_n 1, 1) := by decide +kernel
theorem dX9_readsPerson_91 : decode cX9_readsPerson 91 = .ok (.iload_n 2, 1) := by decide +kernel
theorem dX9_readsPerson_92 : decode cX9_readsPerson 92 = .ok (.iconst 0, 1) := by decide +kernel
theorem dX9_readsPerson_93 : decode cX9_readsPerson 93 = .ok (.iconst 2, 1) := by decide +kernel
theorem dX9_readsPerson_94 : decode cX9_readsPerson 94 = .ok (.invokevirtual 128, 3) := by decide +kernel
theorem dX9_readsPerson_97 : decode cX9_readsPerson 97 = .ok (.istore 5, 2) := by decide +kernel
theorem dX9_readsPerson_99 : decode cX9_readsPerson 99 = .ok (.iload 5, 2) := by decide +kernel
theorem dX9_readsPerson_101 : decode cX9_readsPerson 101 = .ok (.ifCond .ge 5, 3) := by decide +kernel
theorem dX9_readsPerson_104 : decode cX9_readsPerson 104 = .ok (.iconst 0, 1) := by decide +kernel
theorem dX9_readsPerson_105 : decode cX9_readsPerson 105 = .ok (.ireturn, 1) := by decide +kernel
theorem dX9_readsPerson_106 : decode cX9_readsPerson 106 = .ok (.aload_n 0, 1) := by decide +kernel
theorem dX9_readsPerson_107 : decode cX9_readsPerson 107 = .ok (.getfield 19, 3) := by decide +kernel
theorem dX9_readsPerson_110 : decode cX9_readsPerson 110 = .ok (.aload_n 0, 1) := by decide +kernel
theorem dX9_readsPerson_111 : decode cX9_readsPerson 111 = .ok (.getfield 125, 3) := by decide +kernel
theorem dX9_readsPerson_114 : decode cX9_readsPerson 114 = .ok (.iload_n 3, 1) := by decide +kernel
theorem dX9_readsPerson_115 : decode cX9_readsPerson 115 = .ok (.bipush 104, 2) := by decide +kernel
theorem dX9_readsPerson_117 : decode cX9_readsPerson 117 = .ok (.if_icmp .ne 7, 3) := by decide +kernel
theorem dX9_readsPerson_120 : decode cX9_readsPerson 120 = .ok (.iconst 0, 1) := by decide +kernel
theorem dX9_readsPerson_121 : decode cX9_readsPerson 121 = .ok (.goto 14, 3) := by decide +kernel
theorem dX9_readsPerson_124 : decode cX9_readsPerson 124 = .ok (.iload_n 3, 1) := by decide +kernel
theorem dX9_readsPerson_125 : decode cX9_readsPerson 125 = .ok (.bipush 98, 2) := by decide +kernel
theorem dX9_readsPerson_127 : decode cX9_readsPerson 127 = .ok (.if_icmp .ne 7, 3) := by decide +kernel
theorem dX9_readsPerson_130 : decode cX9_readsPerson 130 = .ok (.iconst 1, 1) := by decide +kernel
theorem dX9_readsPerson_131 : decode cX9_readsPerson 131 = .ok (.goto 4, 3) := by decide +kernel
theorem dX9_readsPerson_134 : decode cX9_readsPerson 134 = .ok (.iconst 2, 1) := by decide +kernel
theorem dX9_readsPerson_135 : decode cX9_readsPerson 135 = .ok (.iastore, 1) := by decide +kernel
theorem dX9_readsPerson_136 : decode cX9_readsPerson 136 = .ok (.aload_n 0, 1) := by decide +kernel
theorem dX9_readsPerson_137 : decode cX9_readsPerson 137 = .ok (.getfield 22, 3) := by decide +kernel
theorem dX9_readsPerson_140 : decode cX9_readsPerson 140 = .ok (.aload_n 0, 1) := by decide +kernel
theorem dX9_readsPerson_141 : decode cX9_readsPerson 141 = .ok (.getfield 125, 3) := by decide +kernel
theorem dX9_readsPerson_144 : decode cX9_readsPerson 144 = .ok (.iload 4, 2) := by decide +kernel
theorem dX9_readsPerson_146 : decode cX9_readsPerson 146 = .ok (.iastore, 1) := by decide +kernel
theorem dX9_readsPerson_147 : decode cX9_readsPerson 147 = .ok (.aload_n 0, 1) := by decide +kernel
theorem dX9_readsPerson_148 : decode cX9_readsPerson 148 = .ok (.getfield 25, 3) := by decide +kernel
theorem dX9_readsPerson_151 : decode cX9_readsPerson 151 = .ok (.aload_n 0, 1) := by decide +kernel
theorem dX9_readsPerson_152 : decode cX9_readsPerson 152 = .ok (.getfield 125, 3) := by decide +kernel
theorem dX9_readsPerson_155 : decode cX9_readsPerson 155 = .ok (.iload 5, 2) := by decide +kernel
theorem dX9_readsPerson_157 : decode cX9_readsPerson 157 = .ok (.iastore, 1) := by decide +kernel
theorem dX9_readsPerson_158 : decode cX9_readsPerson 158 = .ok (.aload_n 0, 1) := by decide +kernel
theorem dX9_readsPerson_159 : decode cX9_readsPerson 159 = .ok (.dup, 1) := by decide +kernel
theorem dX9_readsPerson_160 : decode cX9_readsPerson 160 = .ok (.getfield 125, 3) := by decide +kernel
theorem dX9_readsPerson_163 : decode cX9_readsPerson 163 = .ok (.iconst 1, 1) := by decide +kernel
theorem dX9_readsPerson_164 : decode cX9_readsPerson 164 = .ok (.iadd, 1) := by decide +kernel
theorem dX9_readsPerson_165 : decode cX9_readsPerson 165 = .ok (.putfield 125, 3) := by decide +kernel
theorem dX9_readsPerson_168 : decode cX9_readsPerson 168 = .ok (.iconst 1, 1) := by decide +kernel
theorem dX9_readsPerson_169 : decode cX9_readsPerson 169 = .ok (.ireturn, 1) := by decide +kernel
set_option maxRecDepth 20000 in
theorem ggX9_readsSteppe_X9_codeAt : GoodIn wsX9_readsSteppe wsX9_codeAt := goodIn_r _ [7, 1, 8, 23, 24, 25, 26, 27, 28, 29, 30, 31, 32, 33, 34, 35, 36, 37, 38, 39, 40, 41, 42, 43, 44, 45, 46, 47, 48, 49, 50, 51, 52, 53, 54, 55, 56, 57, 58, 59, 60] (by decide +kernel) (by decide +kernel)
set_option maxRecDepth 20000 in
theorem gX9_readsSteppe_X9_codeAt : GoodIn wsX9_readsSteppe (wsV RX9 121 RX9 yX9_codeAt wsX9_codeAt) := goodIn_app (goodIn_of _ (by decide +kernel)) ggX9_readsSteppe_X9_codeAt
set_option maxRecDepth 20000 in
theorem ggX9_readsSteppe_X9_readsPerson : GoodIn wsX9_readsSteppe wsX9_readsPerson := goodIn_r _ [12, 2, 1, 13, 14, 15, 3, 4, 5, 6, 7, 8, 16, 17, 18, 19, 20, 21, 22, 23, 24, 25, 26, 27, 28, 29, 30, 31, 32, 33, 34, 35, 36, 37, 38, 39, 40, 41, 42, 43, 44, 45, 46, 47, 48, 49, 50, 51, 52, 53, 54, 55, 56, 57, 58, 59, 60] (by decide +kernel) (by decide +kernel)
set_option maxRecDepth 20000 in
theorem gX9_readsSteppe_X9_readsPerson : GoodIn wsX9_readsSteppe (wsV RX9 132 RX9 yX9_readsPerson wsX9_readsPerson) := goodIn_app (goodIn_of _ (by decide +kernel)) ggX9_readsSteppe_X9_readsPerson
theorem dX9_readsSteppe_0 : decode cX9_readsSteppe 0 = .ok (.aload_n 0, 1) := by decide +kernel
theorem dX9_readsSteppe_1 : decode cX9_readsSteppe 1 = .ok (.iconst 0, 1) := by decide +kernel
theorem dX9_readsSteppe_2 : decode cX9_readsSteppe 2 = .ok (.putfield 118, 3) := by decide +kernel
theorem dX9_readsSteppe_5 : decode cX9_readsSteppe 5 = .ok (.aload_n 0, 1) := by decide +kernel
theorem dX9_readsSteppe_6 : decode cX9_readsSteppe 6 = .ok (.iconst 0, 1) := by decide +kernel
theorem dX9_readsSteppe_7 : decode cX9_readsSteppe 7 = .ok (.putfield 125, 3) := by decide +kernel
theorem dX9_readsSteppe_10 : decode cX9_readsSteppe 10 = .ok (.aload_n 0, 1) := by decide +kernel
theorem dX9_readsSteppe_11 : decode cX9_readsSteppe 11 = .ok (.iload_n 1, 1) := by decide +kernel
theorem dX9_readsSteppe_12 : decode cX9_readsSteppe 12 = .ok (.iload_n 2, 1) := by decide +kernel
theorem dX9_readsSteppe_13 : decode cX9_readsSteppe 13 = .ok (.invokevirtual 121, 3) := by decide +kernel
theorem dX9_readsSteppe_16 : decode cX9_readsSteppe 16 = .ok (.bipush 115, 2) := by decide +kernel
theorem dX9_readsSteppe_18 : decode cX9_readsSteppe 18 = .ok (.if_icmp .ne 7, 3) := by decide +kernel
theorem dX9_readsSteppe_21 : decode cX9_readsSteppe 21 = .ok (.iconst 1, 1) := by decide +kernel
theorem dX9_readsSteppe_22 : decode cX9_readsSteppe 22 = .ok (.goto 4, 3) := by decide +kernel
theorem dX9_readsSteppe_25 : decode cX9_readsSteppe 25 = .ok (.iconst 0, 1) := by decide +kernel
theorem dX9_readsSteppe_26 : decode cX9_readsSteppe 26 = .ok (.istore_n 3, 1) := by decide +kernel
theorem dX9_readsSteppe_27 : decode cX9_readsSteppe 27 = .ok (.aload_n 0, 1) := by decide +kernel
theorem dX9_readsSteppe_28 : decode cX9_readsSteppe 28 = .ok (.dup, 1) := by decide +kernel
theorem dX9_readsSteppe_29 : decode cX9_readsSteppe 29 = .ok (.getfield 118, 3) := by decide +kernel
theorem dX9_readsSteppe_32 : decode cX9_readsSteppe 32 = .ok (.iload_n 3, 1) := by decide +kernel
theorem dX9_readsSteppe_33 : decode cX9_readsSteppe 33 = .ok (.ifCond .eq 7, 3) := by decide +kernel
theorem dX9_readsSteppe_36 : decode cX9_readsSteppe 36 = .ok (.iconst 1, 1) := by decide +kernel
theorem dX9_readsSteppe_37 : decode cX9_readsSteppe 37 = .ok (.goto 4, 3) := by decide +kernel
theorem dX9_readsSteppe_40 : decode cX9_readsSteppe 40 = .ok (.iconst 0, 1) := by decide +kernel
theorem dX9_readsSteppe_41 : decode cX9_readsSteppe 41 = .ok (.iadd, 1) := by decide +kernel
theorem dX9_readsSteppe_42 : decode cX9_readsSteppe 42 = .ok (.putfield 118, 3) := by decide +kernel
theorem dX9_readsSteppe_45 : decode cX9_readsSteppe 45 = .ok (.iload_n 3, 1) := by decide +kernel
theorem dX9_readsSteppe_46 : decode cX9_readsSteppe 46 = .ok (.ifCond .eq 29, 3) := by decide +kernel
theorem dX9_readsSteppe_49 : decode cX9_readsSteppe 49 = .ok (.aload_n 0, 1) := by decide +kernel
theorem dX9_readsSteppe_50 : decode cX9_readsSteppe 50 = .ok (.getfield 125, 3) := by decide +kernel
theorem dX9_readsSteppe_53 : decode cX9_readsSteppe 53 = .ok (.iconst 2, 1) := by decide +kernel
theorem dX9_readsSteppe_54 : decode cX9_readsSteppe 54 = .ok (.if_icmp .lt 11, 3) := by decide +kernel
theorem dX9_readsSteppe_57 : decode cX9_readsSteppe 57 = .ok (.aload_n 0, 1) := by decide +kernel
theorem dX9_readsSteppe_58 : decode cX9_readsSteppe 58 = .ok (.getfield 118, 3) := by decide +kernel
theorem dX9_readsSteppe_61 : decode cX9_readsSteppe 61 = .ok (.iload_n 2, 1) := by decide +kernel
theorem dX9_readsSteppe_62 : decode cX9_readsSteppe 62 = .ok (.if_icmp .ge 13, 3) := by decide +kernel
theorem dX9_readsSteppe_65 : decode cX9_readsSteppe 65 = .ok (.aload_n 0, 1) := by decide +kernel
theorem dX9_readsSteppe_66 : decode cX9_readsSteppe 66 = .ok (.iload_n 1, 1) := by decide +kernel
theorem dX9_readsSteppe_67 : decode cX9_readsSteppe 67 = .ok (.iload_n 2, 1) := by decide +kernel
theorem dX9_readsSteppe_68 : decode cX9_readsSteppe 68 = .ok (.invokevirtual 132, 3) := by decide +kernel
theorem dX9_readsSteppe_71 : decode cX9_readsSteppe 71 = .ok (.istore_n 3, 1) := by decide +kernel
theorem dX9_readsSteppe_72 : decode cX9_readsSteppe 72 = .ok (.goto (-27), 3) := by decide +kernel
theorem dX9_readsSteppe_75 : decode cX9_readsSteppe 75 = .ok (.iload_n 3, 1) := by decide +kernel
theorem dX9_readsSteppe_76 : decode cX9_readsSteppe 76 = .ok (.ireturn, 1) := by decide +kernel
set_option maxRecDepth 20000 in
theorem ggX9_cellsBarred_X9_failed : GoodIn wsX9_cellsBarred wsX9_failed := goodIn_r _ [7, 8, 12, 13, 14, 15, 16, 17, 18, 19, 20, 21, 22, 23, 24, 25, 26, 27, 28, 29, 30, 31, 32, 33, 34, 35, 36, 37, 38, 39, 40, 41, 42, 43, 44, 45, 46, 47, 48, 49] (by decide +kernel) (by decide +kernel)
set_option maxRecDepth 20000 in
theorem gX9_cellsBarred_X9_failed : GoodIn wsX9_cellsBarred (wsV RX9 136 RX9 yX9_failed wsX9_failed) := goodIn_app (goodIn_of _ (by decide +kernel)) ggX9_cellsBarred_X9_failed
set_option maxRecDepth 20000 in
theorem ggX9_cellsBarred_X9_isBeyond : GoodIn wsX9_cellsBarred wsX9_isBeyond := goodIn_r _ [11] (by decide +kernel) (by decide +kernel)
set_option maxRecDepth 20000 in
theorem gX9_cellsBarred_X9_isBeyond : GoodIn wsX9_cellsBarred (va_wsS RX9 140 yX9_isBeyond wsX9_isBeyond) := goodIn_app (goodIn_of _ (by decide +kernel)) ggX9_cellsBarred_X9_isBeyond
theorem dX9_cellsBarred_0 : decode cX9_cellsBarred 0 = .ok (.aload_n 0, 1) := by decide +kernel
theorem dX9_cellsBarred_1 : decode cX9_cellsBarred 1 = .ok (.getfield 80, 3) := by decide +kernel
theorem dX9_cellsBarred_4 : decode cX9_cellsBarred 4 = .ok (.iload_n 1, 1) := by decide +kernel
theorem dX9_cellsBarred_5 : decode cX9_cellsBarred 5 = .ok (.iaload, 1) := by decide +kernel
theorem dX9_cellsBarred_6 : decode cX9_cellsBarred 6 = .ok (.ifCond .lt 19, 3) := by decide +kernel
theorem dX9_cellsBarred_9 : decode cX9_cellsBarred 9 = .ok (.aload_n 0, 1) := by decide +kernel
theorem dX9_cellsBarred_10 : decode cX9_cellsBarred 10 = .ok (.getfield 83, 3) := by decide +kernel
theorem dX9_cellsBarred_13 : decode cX9_cellsBarred 13 = .ok (.iload_n 1, 1) := by decide +kernel
theorem dX9_cellsBarred_14 : decode cX9_cellsBarred 14 = .ok (.iaload, 1) := by decide +kernel
theorem dX9_cellsBarred_15 : decode cX9_cellsBarred 15 = .ok (.iload_n 2, 1) := by decide +kernel
theorem dX9_cellsBarred_16 : decode cX9_cellsBarred 16 = .ok (.if_icmp .eq 9, 3) := by decide +kernel
theorem dX9_cellsBarred_19 : decode cX9_cellsBarred 19 = .ok (.aload_n 0, 1) := by decide +kernel
theorem dX9_cellsBarred_20 : decode cX9_cellsBarred 20 = .ok (.iconst 2, 1) := by decide +kernel
theorem dX9_cellsBarred_21 : decode cX9_cellsBarred 21 = .ok (.invokevirtual 136, 3) := by decide +kernel
theorem dX9_cellsBarred_24 : decode cX9_cellsBarred 24 = .ok (.ireturn, 1) := by decide +kernel
theorem dX9_cellsBarred_25 : decode cX9_cellsBarred 25 = .ok (.aload_n 0, 1) := by decide +kernel
theorem dX9_cellsBarred_26 : decode cX9_cellsBarred 26 = .ok (.getfield 80, 3) := by decide +kernel
theorem dX9_cellsBarred_29 : decode cX9_cellsBarred 29 = .ok (.iload_n 1, 1) := by decide +kernel
theorem dX9_cellsBarred_30 : decode cX9_cellsBarred 30 = .ok (.iaload, 1) := by decide +kernel
theorem dX9_cellsBarred_31 : decode cX9_cellsBarred 31 = .ok (.ifCond .ge 9, 3) := by decide +kernel
theorem dX9_cellsBarred_34 : decode cX9_cellsBarred 34 = .ok (.aload_n 0, 1) := by decide +kernel
theorem dX9_cellsBarred_35 : decode cX9_cellsBarred 35 = .ok (.iconst 1, 1) := by decide +kernel
theorem dX9_cellsBarred_36 : decode cX9_cellsBarred 36 = .ok (.invokevirtual 136, 3) := by decide +kernel
theorem dX9_cellsBarred_39 : decode cX9_cellsBarred 39 = .ok (.ireturn, 1) := by decide +kernel
