theorem dX9_remembers_52 : decode cX9_remembers 52 = .ok (.iload 4, 2) := by decide +kernel
theorem dX9_remembers_54 : decode cX9_remembers 54 = .ok (.ishl, 1) := by decide +kernel
theorem dX9_remembers_55 : decode cX9_remembers 55 = .ok (.goto 4, 3) := by decide +kernel
theorem dX9_remembers_58 : decode cX9_remembers 58 = .ok (.iconst 0, 1) := by decide +kernel
theorem dX9_remembers_59 : decode cX9_remembers 59 = .ok (.ior, 1) := by decide +kernel
theorem dX9_remembers_60 : decode cX9_remembers 60 = .ok (.istore_n 3, 1) := by decide +kernel
theorem dX9_remembers_61 : decode cX9_remembers 61 = .ok (.iinc 4 1, 3) := by decide +kernel
theorem dX9_remembers_64 : decode cX9_remembers 64 = .ok (.goto (-34), 3) := by decide +kernel
theorem dX9_remembers_67 : decode cX9_remembers 67 = .ok (.iload_n 3, 1) := by decide +kernel
theorem dX9_remembers_68 : decode cX9_remembers 68 = .ok (.ireturn, 1) := by decide +kernel
set_option maxRecDepth 20000 in
theorem ggX9_hearth_X9_noPerson : GoodIn wsX9_hearth wsX9_noPerson := goodIn_r _ [6, 7, 8, 9, 5, 10, 65, 66, 67, 68, 69, 70, 71, 72, 73, 74, 75, 76, 77, 78, 79, 80, 81, 82, 83, 84, 85, 86, 87, 88, 89, 90, 91, 92, 93, 94, 95, 96, 97, 98, 99, 100, 101, 102] (by decide +kernel) (by decide +kernel)
set_option maxRecDepth 20000 in
theorem gX9_hearth_X9_noPerson : GoodIn wsX9_hearth (wsV RX9 173 RX9 yX9_noPerson wsX9_noPerson) := goodIn_app (goodIn_of _ (by decide +kernel)) ggX9_hearth_X9_noPerson
set_option maxRecDepth 20000 in
theorem ggX9_hearth_X9_isSeason : GoodIn wsX9_hearth wsX9_isSeason := goodIn_r _ [13, 14, 8, 9, 5, 10] (by decide +kernel) (by decide +kernel)
set_option maxRecDepth 20000 in
theorem gX9_hearth_X9_isSeason : GoodIn wsX9_hearth (va_wsS RX9 185 yX9_isSeason wsX9_isSeason) := goodIn_app (goodIn_of _ (by decide +kernel)) ggX9_hearth_X9_isSeason
set_option maxRecDepth 20000 in
theorem ggX9_hearth_X9_goTo : GoodIn wsX9_hearth wsX9_goTo := goodIn_r _ [18, 19, 20, 21, 5, 22, 7, 1, 23, 24, 25, 26, 27, 28, 29, 30, 31, 32, 33, 34, 35, 36, 37, 38, 39, 40, 41, 42, 43, 44, 45, 46, 47, 48, 49, 50, 51, 52, 53, 54, 55, 56, 57, 58, 59, 60, 61, 62, 63, 64, 65, 66, 67, 68, 69, 70, 71, 72, 73, 74, 75, 76, 77, 78, 79, 80, 81, 82, 83, 84, 85, 86, 87, 88, 89, 90, 91, 92, 93, 94, 95, 96, 97, 98, 99, 100, 101, 102] (by decide +kernel) (by decide +kernel)
set_option maxRecDepth 20000 in
theorem gX9_hearth_X9_goTo : GoodIn wsX9_hearth (wsV RX9 215 RX9 yX9_goTo wsX9_goTo) := goodIn_app (goodIn_of _ (by decide +kernel)) ggX9_hearth_X9_goTo
theorem dX9_hearth_0 : decode cX9_hearth 0 = .ok (.aload_n 0, 1) := by decide +kernel
theorem dX9_hearth_1 : decode cX9_hearth 1 = .ok (.iload_n 1, 1) := by decide +kernel
theorem dX9_hearth_2 : decode cX9_hearth 2 = .ok (.invokevirtual 173, 3) := by decide +kernel
theorem dX9_hearth_5 : decode cX9_hearth 5 = .ok (.ifCond .eq 5, 3) := by decide +kernel
theorem dX9_hearth_8 : decode cX9_hearth 8 = .ok (.iconst (-1), 1) := by decide +kernel
theorem dX9_hearth_9 : decode cX9_hearth 9 = .ok (.ireturn, 1) := by decide +kernel
theorem dX9_hearth_10 : decode cX9_hearth 10 = .ok (.iload_n 2, 1) := by decide +kernel
theorem dX9_hearth_11 : decode cX9_hearth 11 = .ok (.invokestatic 185, 3) := by decide +kernel
theorem dX9_hearth_14 : decode cX9_hearth 14 = .ok (.ifCond .ne 6, 3) := by decide +kernel
theorem dX9_hearth_17 : decode cX9_hearth 17 = .ok (.bipush (-2), 2) := by decide +kernel
theorem dX9_hearth_19 : decode cX9_hearth 19 = .ok (.ireturn, 1) := by decide +kernel
theorem dX9_hearth_20 : decode cX9_hearth 20 = .ok (.aload_n 0, 1) := by decide +kernel
theorem dX9_hearth_21 : decode cX9_hearth 21 = .ok (.iload_n 2, 1) := by decide +kernel
theorem dX9_hearth_22 : decode cX9_hearth 22 = .ok (.invokevirtual 215, 3) := by decide +kernel
theorem dX9_hearth_25 : decode cX9_hearth 25 = .ok (.aload_n 0, 1) := by decide +kernel
theorem dX9_hearth_26 : decode cX9_hearth 26 = .ok (.getfield 50, 3) := by decide +kernel
theorem dX9_hearth_29 : decode cX9_hearth 29 = .ok (.iload_n 1, 1) := by decide +kernel
theorem dX9_hearth_30 : decode cX9_hearth 30 = .ok (.iaload, 1) := by decide +kernel
theorem dX9_hearth_31 : decode cX9_hearth 31 = .ok (.ireturn, 1) := by decide +kernel
set_option maxRecDepth 20000 in
theorem ggX9_told_X9_noHearth : GoodIn wsX9_told wsX9_noHearth := goodIn_r _ [6, 7, 8, 9, 5, 10] (by decide +kernel) (by decide +kernel)
set_option maxRecDepth 20000 in
theorem gX9_told_X9_noHearth : GoodIn wsX9_told (va_wsS RX9 191 yX9_noHearth wsX9_noHearth) := goodIn_app (goodIn_of _ (by decide +kernel)) ggX9_told_X9_noHearth
set_option maxRecDepth 20000 in
theorem ggX9_told_X9_isSeason : GoodIn wsX9_told wsX9_isSeason := goodIn_r _ [13, 14, 8, 9, 5, 10] (by decide +kernel) (by decide +kernel)
set_option maxRecDepth 20000 in
theorem gX9_told_X9_isSeason : GoodIn wsX9_told (va_wsS RX9 185 yX9_isSeason wsX9_isSeason) := goodIn_app (goodIn_of _ (by decide +kernel)) ggX9_told_X9_isSeason
set_option maxRecDepth 20000 in
theorem ggX9_told_X9_goTo : GoodIn wsX9_told wsX9_goTo := goodIn_r _ [18, 19, 20, 21, 5, 22, 1, 23, 24, 25, 26, 27, 28, 29, 30, 31, 32, 33, 34, 35, 36, 37, 38, 39, 40, 41, 2, 42, 43, 44, 45, 46, 47, 48, 49, 50, 51, 52, 53, 54, 55, 56, 57, 58, 59, 60, 61, 62, 63, 64, 65, 66, 67, 68, 69, 70, 71, 72, 73, 74, 75, 76, 77, 78, 79, 80, 81, 82, 83, 84, 85, 86, 87, 88, 89, 90, 91, 92, 93, 94, 95, 96, 97, 98, 99, 100, 101, 102] (by decide +kernel) (by decide +kernel)
set_option maxRecDepth 20000 in
theorem gX9_told_X9_goTo : GoodIn wsX9_told (wsV RX9 215 RX9 yX9_goTo wsX9_goTo) := goodIn_app (goodIn_of _ (by decide +kernel)) ggX9_told_X9_goTo
theorem dX9_told_0 : decode cX9_told 0 = .ok (.iload_n 1, 1) := by decide +kernel
theorem dX9_told_1 : decode cX9_told 1 = .ok (.invokestatic 191, 3) := by decide +kernel
theorem dX9_told_4 : decode cX9_told 4 = .ok (.ifCond .eq 5, 3) := by decide +kernel
theorem dX9_told_7 : decode cX9_told 7 = .ok (.iconst (-1), 1) := by decide +kernel
theorem dX9_told_8 : decode cX9_told 8 = .ok (.ireturn, 1) := by decide +kernel
theorem dX9_told_9 : decode cX9_told 9 = .ok (.iload_n 2, 1) := by decide +kernel
theorem dX9_told_10 : decode cX9_told 10 = .ok (.invokestatic 185, 3) := by decide +kernel
theorem dX9_told_13 : decode cX9_told 13 = .ok (.ifCond .ne 6, 3) := by decide +kernel
theorem dX9_told_16 : decode cX9_told 16 = .ok (.bipush (-2), 2) := by decide +kernel
theorem dX9_told_18 : decode cX9_told 18 = .ok (.ireturn, 1) := by decide +kernel
theorem dX9_told_19 : decode cX9_told 19 = .ok (.aload_n 0, 1) := by decide +kernel
theorem dX9_told_20 : decode cX9_told 20 = .ok (.getfield 102, 3) := by decide +kernel
theorem dX9_told_23 : decode cX9_told 23 = .ok (.ifCond .ne 6, 3) := by decide +kernel
theorem dX9_told_26 : decode cX9_told 26 = .ok (.bipush (-3), 2) := by decide +kernel
theorem dX9_told_28 : decode cX9_told 28 = .ok (.ireturn, 1) := by decide +kernel
theorem dX9_told_29 : decode cX9_told 29 = .ok (.aload_n 0, 1) := by decide +kernel
theorem dX9_told_30 : decode cX9_told 30 = .ok (.iload_n 2, 1) := by decide +kernel
theorem dX9_told_31 : decode cX9_told 31 = .ok (.invokevirtual 215, 3) := by decide +kernel
theorem dX9_told_34 : decode cX9_told 34 = .ok (.aload_n 0, 1) := by decide +kernel
theorem dX9_told_35 : decode cX9_told 35 = .ok (.getfield 59, 3) := by decide +kernel
theorem dX9_told_38 : decode cX9_told 38 = .ok (.iload_n 1, 1) := by decide +kernel
theorem dX9_told_39 : decode cX9_told 39 = .ok (.iaload, 1) := by decide +kernel
theorem dX9_told_40 : decode cX9_told 40 = .ok (.ireturn, 1) := by decide +kernel
set_option maxRecDepth 20000 in
theorem ggX9_forbiddenIn_X9_isAlive : GoodIn wsX9_forbiddenIn wsX9_isAlive := goodIn_r _ [8, 9, 10, 11, 12, 7, 13, 14, 15, 16, 17, 18, 19, 20, 21, 22, 23, 24, 25, 26, 27, 28, 29, 30, 31, 32, 33, 34, 35, 36, 37, 38, 39, 40, 41, 42, 43, 44, 45, 46, 47, 48, 49, 50, 51, 52, 53, 54, 55, 56, 57, 58] (by decide +kernel) (by decide +kernel)
set_option maxRecDepth 20000 in
theorem gX9_forbiddenIn_X9_isAlive : GoodIn wsX9_forbiddenIn (wsV RX9 218 RX9 yX9_isAlive wsX9_isAlive) := goodIn_app (goodIn_of _ (by decide +kernel)) ggX9_forbiddenIn_X9_isAlive
theorem dX9_forbiddenIn_0 : decode cX9_forbiddenIn 0 = .ok (.iconst 0, 1) := by decide +kernel
theorem dX9_forbiddenIn_1 : decode cX9_forbiddenIn 1 = .ok (.istore_n 2, 1) := by decide +kernel
theorem dX9_forbiddenIn_2 : decode cX9_forbiddenIn 2 = .ok (.iconst 0, 1) := by decide +kernel
theorem dX9_forbiddenIn_3 : decode cX9_forbiddenIn 3 = .ok (.istore_n 3, 1) := by decide +kernel
theorem dX9_forbiddenIn_4 : decode cX9_forbiddenIn 4 = .ok (.iload_n 3, 1) := by decide +kernel
theorem dX9_forbiddenIn_5 : decode cX9_forbiddenIn 5 = .ok (.aload_n 0, 1) := by decide +kernel
theorem dX9_forbiddenIn_6 : decode cX9_forbiddenIn 6 = .ok (.getfield 109, 3) := by decide +kernel
theorem dX9_forbiddenIn_9 : decode cX9_forbiddenIn 9 = .ok (.if_icmp .ge 63, 3) := by decide +kernel
theorem dX9_forbiddenIn_12 : decode cX9_forbiddenIn 12 = .ok (.aload_n 0, 1) := by decide +kernel
theorem dX9_forbiddenIn_13 : decode cX9_forbiddenIn 13 = .ok (.getfield 37, 3) := by decide +kernel
theorem dX9_forbiddenIn_16 : decode cX9_forbiddenIn 16 = .ok (.iload_n 3, 1) := by decide +kernel
theorem dX9_forbiddenIn_17 : decode cX9_forbiddenIn 17 = .ok (.baload, 1) := by decide +kernel
theorem dX9_forbiddenIn_18 : decode cX9_forbiddenIn 18 = .ok (.ifCond .eq 16, 3) := by decide +kernel
theorem dX9_forbiddenIn_21 : decode cX9_forbiddenIn 21 = .ok (.iload_n 1, 1) := by decide +kernel
theorem dX9_forbiddenIn_22 : decode cX9_forbiddenIn 22 = .ok (.bipush 7, 2) := by decide +kernel
theorem dX9_forbiddenIn_24 : decode cX9_forbiddenIn 24 = .ok (.irem, 1) := by decide +kernel
theorem dX9_forbiddenIn_25 : decode cX9_forbiddenIn 25 = .ok (.bipush 6, 2) := by decide +kernel
theorem dX9_forbiddenIn_27 : decode cX9_forbiddenIn 27 = .ok (.if_icmp .ne 7, 3) := by decide +kernel
theorem dX9_forbiddenIn_30 : decode cX9_forbiddenIn 30 = .ok (.iconst 1, 1) := by decide +kernel
theorem dX9_forbiddenIn_31 : decode cX9_forbiddenIn 31 = .ok (.goto 4, 3) := by decide +kernel
theorem dX9_forbiddenIn_34 : decode cX9_forbiddenIn 34 = .ok (.iconst 0, 1) := by decide +kernel
theorem dX9_forbiddenIn_35 : decode cX9_forbiddenIn 35 = .ok (.istore 4, 2) := by decide +kernel
theorem dX9_forbiddenIn_37 : decode cX9_forbiddenIn 37 = .ok (.iload_n 2, 1) := by decide +kernel
theorem dX9_forbiddenIn_38 : decode cX9_forbiddenIn 38 = .ok (.iload 4, 2) := by decide +kernel
theorem dX9_forbiddenIn_40 : decode cX9_forbiddenIn 40 = .ok (.ifCond .ne 23, 3) := by decide +kernel
theorem dX9_forbiddenIn_43 : decode cX9_forbiddenIn 43 = .ok (.aload_n 0, 1) := by decide +kernel
theorem dX9_forbiddenIn_44 : decode cX9_forbiddenIn 44 = .ok (.iload_n 3, 1) := by decide +kernel
theorem dX9_forbiddenIn_45 : decode cX9_forbiddenIn 45 = .ok (.iload_n 1, 1) := by decide +kernel
theorem dX9_forbiddenIn_46 : decode cX9_forbiddenIn 46 = .ok (.invokevirtual 218, 3) := by decide +kernel
theorem dX9_forbiddenIn_49 : decode cX9_forbiddenIn 49 = .ok (.ifCond .eq 14, 3) := by decide +kernel
theorem dX9_forbiddenIn_52 : decode cX9_forbiddenIn 52 = .ok (.iconst 1, 1) := by decide +kernel
theorem dX9_forbiddenIn_53 : decode cX9_forbiddenIn 53 = .ok (.aload_n 0, 1) := by decide +kernel
theorem dX9_forbiddenIn_54 : decode cX9_forbiddenIn 54 = .ok (.getfield 28, 3) := by decide +kernel
theorem dX9_forbiddenIn_57 : decode cX9_forbiddenIn 57 = .ok (.iload_n 3, 1) := by decide +kernel
theorem dX9_forbiddenIn_58 : decode cX9_forbiddenIn 58 = .ok (.iaload, 1) := by decide +kernel
theorem dX9_forbiddenIn_59 : decode cX9_forbiddenIn 59 = .ok (.ishl, 1) := by decide +kernel
theorem dX9_forbiddenIn_60 : decode cX9_forbiddenIn 60 = .ok (.goto 4, 3) := by decide +kernel
theorem dX9_forbiddenIn_63 : decode cX9_forbiddenIn 63 = .ok (.iconst 0, 1) := by decide +kernel
theorem dX9_forbiddenIn_64 : decode cX9_forbiddenIn 64 = .ok (.ior, 1) := by decide +kernel
theorem dX9_forbiddenIn_65 : decode cX9_forbiddenIn 65 = .ok (.istore_n 2, 1) := by decide +kernel
theorem dX9_forbiddenIn_66 : decode cX9_forbiddenIn 66 = .ok (.iinc 3 1, 3) := by decide +kernel
theorem dX9_forbiddenIn_69 : decode cX9_forbiddenIn 69 = .ok (.goto (-65), 3) := by decide +kernel
theorem dX9_forbiddenIn_72 : decode cX9_forbiddenIn 72 = .ok (.iload_n 2, 1) := by decide +kernel
theorem dX9_forbiddenIn_73 : decode cX9_forbiddenIn 73 = .ok (.ireturn, 1) := by decide +kernel
set_option maxRecDepth 20000 in
theorem ggX9_isForbidden_X9_goTo : GoodIn wsX9_isForbidden wsX9_goTo := goodIn_r _ [5, 6, 7, 8, 4, 9, 10, 11, 12, 13, 14, 15, 16, 17, 18, 19, 20, 21, 22, 23, 24, 25, 26, 27, 28, 29, 30, 31, 32, 33, 34, 35, 36, 37, 38, 39, 40, 41, 42, 43, 44, 45, 46, 47, 48, 49, 50, 51, 52, 53, 64, 65, 66, 67, 68, 69, 70, 71, 72, 73, 74, 75, 76, 77, 78, 79, 80, 81, 82, 83, 84, 85, 86, 87, 88, 89, 90, 91, 92, 93, 94, 95, 96, 97, 98, 99, 100, 101] (by decide +kernel) (by decide +kernel)
set_option maxRecDepth 20000 in
theorem gX9_isForbidden_X9_goTo : GoodIn wsX9_isForbidden (wsV RX9 215 RX9 yX9_goTo wsX9_goTo) := goodIn_app (goodIn_of _ (by decide +kernel)) ggX9_isForbidden_X9_goTo
set_option maxRecDepth 20000 in
theorem ggX9_isForbidden_X9_forbiddenIn : GoodIn wsX9_isForbidden wsX9_forbiddenIn := goodIn_r _ [57, 23, 58, 59, 60, 61, 62, 4, 63, 10, 36, 37, 38, 39, 13, 40, 41, 42, 43, 44, 45, 64, 65, 66, 67, 68, 69, 70, 71, 72, 73, 74, 75, 76, 77, 78, 79, 80, 81, 82, 83, 84, 85, 86, 87, 88, 89, 90, 91, 92, 93, 94, 95, 96, 97, 98, 99, 100, 101] (by decide +kernel) (by decide +kernel)
set_option maxRecDepth 20000 in
theorem gX9_isForbidden_X9_forbiddenIn : GoodIn wsX9_isForbidden (wsV RX9 221 RX9 yX9_forbiddenIn wsX9_forbiddenIn) := goodIn_app (goodIn_of _ (by decide +kernel)) ggX9_isForbidden_X9_forbiddenIn
set_option maxRecDepth 20000 in
theorem ggX9_isForbidden_X9_isIn : GoodIn wsX9_isForbidden wsX9_isIn := goodIn_r _ [53] (by decide +kernel) (by decide +kernel)
set_option maxRecDepth 20000 in
theorem gX9_isForbidden_X9_isIn : GoodIn wsX9_isForbidden (va_wsS RX9 179 yX9_isIn wsX9_isIn) := goodIn_app (goodIn_of _ (by decide +kernel)) ggX9_isForbidden_X9_isIn
theorem dX9_isForbidden_0 : decode cX9_isForbidden 0 = .ok (.aload_n 0, 1) := by decide +kernel
theorem dX9_isForbidden_1 : decode cX9_isForbidden 1 = .ok (.iload_n 2, 1) := by decide +kernel
theorem dX9_isForbidden_2 : decode cX9_isForbidden 2 = .ok (.invokevirtual 215, 3) := by decide +kernel
theorem dX9_isForbidden_5 : decode cX9_isForbidden 5 = .ok (.aload_n 0, 1) := by decide +kernel
theorem dX9_isForbidden_6 : decode cX9_isForbidden 6 = .ok (.iload_n 2, 1) := by decide +kernel
theorem dX9_isForbidden_7 : decode cX9_isForbidden 7 = .ok (.invokevirtual 221, 3) := by decide +kernel
theorem dX9_isForbidden_10 : decode cX9_isForbidden 10 = .ok (.iload_n 1, 1) := by decide +kernel
theorem dX9_isForbidden_11 : decode cX9_isForbidden 11 = .ok (.invokestatic 179, 3) := by decide +kernel
theorem dX9_isForbidden_14 : decode cX9_isForbidden 14 = .ok (.ireturn, 1) := by decide +kernel
set_option maxRecDepth 20000 in
theorem ggX9_forbidden_X9_isSeason : GoodIn wsX9_forbidden wsX9_isSeason := goodIn_r _ [5, 6, 7, 8, 4, 9] (by decide +kernel) (by decide +kernel)
set_option maxRecDepth 20000 in
theorem gX9_forbidden_X9_isSeason : GoodIn wsX9_forbidden (va_wsS RX9 185 yX9_isSeason wsX9_isSeason) := goodIn_app (goodIn_of _ (by decide +kernel)) ggX9_forbidden_X9_isSeason
set_option maxRecDepth 20000 in
theorem ggX9_forbidden_X9_goTo : GoodIn wsX9_forbidden wsX9_goTo := goodIn_r _ [13, 14, 15, 16, 4, 17, 1, 18, 19, 20, 21, 22, 23, 24, 25, 26, 27, 28, 29, 30, 31, 32, 33, 34, 35, 36, 37, 38, 39, 40, 41, 42, 43, 44, 45, 46, 47, 48, 49, 50, 51, 52, 53, 54, 55, 56, 57, 58, 59, 60, 71, 72, 73, 74, 75, 76, 77, 78, 79, 80, 81, 82, 83, 84, 85, 86, 87, 88, 89, 90, 91, 92, 93, 94, 95, 96, 97, 98, 99, 100, 101, 102, 103, 104, 105, 106, 107, 108] (by decide +kernel) (by decide +kernel)
set_option maxRecDepth 20000 in
theorem gX9_forbidden_X9_goTo : GoodIn wsX9_forbidden (wsV RX9 215 RX9 yX9_goTo wsX9_goTo) := goodIn_app (goodIn_of _ (by decide +kernel)) ggX9_forbidden_X9_goTo
set_option maxRecDepth 20000 in
theorem ggX9_forbidden_X9_forbiddenIn : GoodIn wsX9_forbidden wsX9_forbiddenIn := goodIn_r _ [64, 30, 65, 66, 67, 68, 69, 4, 70, 1, 43, 44, 45, 46, 20, 47, 48, 49, 50, 51, 52, 71, 72, 73, 74, 75, 76, 77, 78, 79, 80, 81, 82, 83, 84, 85, 86, 87, 88, 89, 90, 91, 92, 93, 94, 95, 96, 97, 98, 99, 100, 101, 102, 103, 104, 105, 106, 107, 108] (by decide +kernel) (by decide +kernel)
set_option maxRecDepth 20000 in
theorem gX9_forbidden_X9_forbiddenIn : GoodIn wsX9_forbidden (wsV RX9 221 RX9 yX9_forbiddenIn wsX9_forbiddenIn) := goodIn_app (goodIn_of _ (by decide +kernel)) ggX9_forbidden_X9_forbiddenIn
theorem dX9_forbidden_0 : decode cX9_forbidden 0 = .ok (.iload_n 1, 1) := by decide +kernel
theorem dX9_forbidden_1 : decode cX9_forbidden 1 = .ok (.invokestatic 185, 3) := by decide +kernel
theorem dX9_forbidden_4 : decode cX9_forbidden 4 = .ok (.ifCond .ne 6, 3) := by decide +kernel
theorem dX9_forbidden_7 : decode cX9_forbidden 7 = .ok (.bipush (-2), 2) := by decide +kernel
theorem dX9_forbidden_9 : decode cX9_forbidden 9 = .ok (.ireturn, 1) := by decide +kernel
theorem dX9_forbidden_10 : decode cX9_forbidden 10 = .ok (.aload_n 0, 1) := by decide +kernel
theorem dX9_forbidden_11 : decode cX9_forbidden 11 = .ok (.getfield 102, 3) := by decide +kernel
theorem dX9_forbidden_14 : decode cX9_forbidden 14 = .ok (.ifCond .ne 6, 3) := by decide +kernel
theorem dX9_forbidden_17 : decode cX9_forbidden 17 = .ok (.bipush (-3), 2) := by decide +kernel
theorem dX9_forbidden_19 : decode cX9_forbidden 19 = .ok (.ireturn, 1) := by decide +kernel
theorem dX9_forbidden_20 : decode cX9_forbidden 20 = .ok (.aload_n 0, 1) := by decide +kernel
theorem dX9_forbidden_21 : decode cX9_forbidden 21 = .ok (.iload_n 1, 1) := by decide +kernel
theorem dX9_forbidden_22 : decode cX9_forbidden 22 = .ok (.invokevirtual 215, 3) := by decide +kernel
theorem dX9_forbidden_25 : decode cX9_forbidden 25 = .ok (.aload_n 0, 1) := by decide +kernel
theorem dX9_forbidden_26 : decode cX9_forbidden 26 = .ok (.iload_n 1, 1) := by decide +kernel
theorem dX9_forbidden_27 : decode cX9_forbidden 27 = .ok (.invokevirtual 221, 3) := by decide +kernel
theorem dX9_forbidden_30 : decode cX9_forbidden 30 = .ok (.ireturn, 1) := by decide +kernel
set_option maxRecDepth 20000 in
theorem ggX9_endOf_X9_begin : GoodIn wsX9_endOf wsX9_begin := goodIn_r _ [6, 7, 8, 9, 10, 11, 54, 55, 56, 57, 58, 59, 60, 61, 62, 63, 64, 65, 66, 67, 68, 69, 70, 71, 72, 73, 74, 75, 76, 77, 78, 79, 80, 81, 82, 83, 84, 85, 86, 87, 88, 89, 90, 91] (by decide +kernel) (by decide +kernel)
set_option maxRecDepth 20000 in
theorem gX9_endOf_X9_begin : GoodIn wsX9_endOf (wsV RX9 208 RX9 yX9_begin wsX9_begin) := goodIn_app (goodIn_of _ (by decide +kernel)) ggX9_endOf_X9_begin
set_option maxRecDepth 20000 in
theorem ggX9_endOf_X9_goSeason : GoodIn wsX9_endOf wsX9_goSeason := goodIn_r _ [15, 16, 8, 17, 18, 19, 20, 21, 10, 1, 22, 23, 24, 5, 25, 26, 11, 7, 27, 28, 29, 30, 31, 32, 33, 34, 35, 36, 37, 38, 39, 40, 41, 42, 43, 44, 45, 46, 47, 48, 49, 54, 55, 56, 57, 58, 59, 60, 61, 62, 63, 64, 65, 66, 67, 68, 69, 70, 71, 72, 73, 74, 75, 76, 77, 78, 79, 80, 81, 82, 83, 84, 85, 86, 87, 88, 89, 90, 91] (by decide +kernel) (by decide +kernel)
set_option maxRecDepth 20000 in
theorem gX9_endOf_X9_goSeason : GoodIn wsX9_endOf (wsV RX9 211 RX9 yX9_goSeason wsX9_goSeason) := goodIn_app (goodIn_of _ (by decide +kernel)) ggX9_endOf_X9_goSeason
set_option maxRecDepth 20000 in
theorem ggX9_endOf_X9_isAlive : GoodIn wsX9_endOf wsX9_isAlive := goodIn_r _ [53, 7, 32, 33, 34, 5, 35, 10, 36, 37, 38, 39, 40, 41, 54, 55, 56, 57, 58, 59, 60, 61, 62, 63, 64, 65, 66, 67, 68, 69, 70, 71, 72, 73, 74, 75, 76, 77, 78, 79, 80, 81, 82, 83, 84, 85, 86, 87, 88, 89, 90, 91] (by decide +kernel) (by decide +kernel)
set_option maxRecDepth 20000 in
theorem gX9_endOf_X9_isAlive : GoodIn wsX9_endOf (wsV RX9 218 RX9 yX9_isAlive wsX9_isAlive) := goodIn_app (goodIn_of _ (by decide +kernel)) ggX9_endOf_X9_isAlive
theorem dX9_endOf_0 : decode cX9_endOf 0 = .ok (.aload_n 0, 1) := by decide +kernel
theorem dX9_endOf_1 : decode cX9_endOf 1 = .ok (.invokevirtual 208, 3) := by decide +kernel
theorem dX9_endOf_4 : decode cX9_endOf 4 = .ok (.iconst 0, 1) := by decide +kernel
theorem dX9_endOf_5 : decode cX9_endOf 5 = .ok (.istore_n 2, 1) := by decide +kernel
theorem dX9_endOf_6 : decode cX9_endOf 6 = .ok (.iload_n 2, 1) := by decide +kernel
theorem dX9_endOf_7 : decode cX9_endOf 7 = .ok (.bipush 40, 2) := by decide +kernel
theorem dX9_endOf_9 : decode cX9_endOf 9 = .ok (.if_icmp .ge 35, 3) := by decide +kernel
theorem dX9_endOf_12 : decode cX9_endOf 12 = .ok (.aload_n 0, 1) := by decide +kernel
theorem dX9_endOf_13 : decode cX9_endOf 13 = .ok (.iload_n 2, 1) := by decide +kernel
theorem dX9_endOf_14 : decode cX9_endOf 14 = .ok (.invokevirtual 211, 3) := by decide +kernel
theorem dX9_endOf_17 : decode cX9_endOf 17 = .ok (.iload_n 2, 1) := by decide +kernel
theorem dX9_endOf_18 : decode cX9_endOf 18 = .ok (.aload_n 0, 1) := by decide +kernel
theorem dX9_endOf_19 : decode cX9_endOf 19 = .ok (.getfield 34, 3) := by decide +kernel
theorem dX9_endOf_22 : decode cX9_endOf 22 = .ok (.iload_n 1, 1) := by decide +kernel
theorem dX9_endOf_23 : decode cX9_endOf 23 = .ok (.iaload, 1) := by decide +kernel
theorem dX9_endOf_24 : decode cX9_endOf 24 = .ok (.if_icmp .le 14, 3) := by decide +kernel
theorem dX9_endOf_27 : decode cX9_endOf 27 = .ok (.aload_n 0, 1) := by decide +kernel
theorem dX9_endOf_28 : decode cX9_endOf 28 = .ok (.iload_n 1, 1) := by decide +kernel
theorem dX9_endOf_29 : decode cX9_endOf 29 = .ok (.iload_n 2, 1) := by decide +kernel
theorem dX9_endOf_30 : decode cX9_endOf 30 = .ok (.invokevirtual 218, 3) := by decide +kernel
theorem dX9_endOf_33 : decode cX9_endOf 33 = .ok (.ifCond .ne 5, 3) := by decide +kernel
theorem dX9_endOf_36 : decode cX9_endOf 36 = .ok (.iload_n 2, 1) := by decide +kernel
theorem dX9_endOf_37 : decode cX9_endOf 37 = .ok (.ireturn, 1) := by decide +kernel
theorem dX9_endOf_38 : decode cX9_endOf 38 = .ok (.iinc 2 1, 3) := by decide +kernel
theorem dX9_endOf_41 : decode cX9_endOf 41 = .ok (.goto (-35), 3) := by decide +kernel
theorem dX9_endOf_44 : decode cX9_endOf 44 = .ok (.bipush 99, 2) := by decide +kernel
theorem dX9_endOf_46 : decode cX9_endOf 46 = .ok (.ireturn, 1) := by decide +kernel
set_option maxRecDepth 20000 in
theorem ggX9_dies_X9_noTale : GoodIn wsX9_dies wsX9_noTale := goodIn_r _ [5, 6, 7, 8, 4, 9, 65, 66, 67, 68, 69, 70, 71, 72, 73, 74, 75, 76, 77, 78, 79, 80, 81, 82, 83, 84, 85, 86, 87, 88, 89, 90, 91, 92, 93, 94, 95, 96, 97, 98, 99, 100, 101, 102] (by decide +kernel) (by decide +kernel)
set_option maxRecDepth 20000 in
theorem gX9_dies_X9_noTale : GoodIn wsX9_dies (wsV RX9 188 RX9 yX9_noTale wsX9_noTale) := goodIn_app (goodIn_of _ (by decide +kernel)) ggX9_dies_X9_noTale
set_option maxRecDepth 20000 in
theorem ggX9_dies_X9_endOf : GoodIn wsX9_dies wsX9_endOf := goodIn_r _ [13, 14, 15, 16, 17, 4, 18, 19, 20, 21, 22, 23, 24, 25, 26, 27, 28, 29, 30, 31, 6, 32, 33, 34, 35, 36, 37, 38, 39, 40, 41, 42, 43, 44, 45, 46, 47, 48, 49, 50, 51, 52, 53, 54, 55, 56, 57, 58, 59, 60, 61, 62, 63, 64, 65, 66, 67, 68, 69, 70, 71, 72, 73, 74, 75, 76, 77, 78, 79, 80, 81, 82, 83, 84, 85, 86, 87, 88, 89, 90, 91, 92, 93, 94, 95, 96, 97, 98, 99, 100, 101, 102] (by decide +kernel) (by decide +kernel)
set_option maxRecDepth 20000 in
theorem gX9_dies_X9_endOf : GoodIn wsX9_dies (wsV RX9 224 RX9 yX9_endOf wsX9_endOf) := goodIn_app (goodIn_of _ (by decide +kernel)) ggX9_dies_X9_endOf
theorem dX9_dies_0 : decode cX9_dies 0 = .ok (.aload_n 0, 1) := by decide +kernel
theorem dX9_dies_1 : decode cX9_dies 1 = .ok (.iload_n 1, 1) := by decide +kernel
theorem dX9_dies_2 : decode cX9_dies 2 = .ok (.invokevirtual 188, 3) := by decide +kernel
theorem dX9_dies_5 : decode cX9_dies 5 = .ok (.ifCond .eq 5, 3) := by decide +kernel
theorem dX9_dies_8 : decode cX9_dies 8 = .ok (.iconst (-1), 1) := by decide +kernel
theorem dX9_dies_9 : decode cX9_dies 9 = .ok (.ireturn, 1) := by decide +kernel
theorem dX9_dies_10 : decode cX9_dies 10 = .ok (.aload_n 0, 1) := by decide +kernel
theorem dX9_dies_11 : decode cX9_dies 11 = .ok (.iload_n 1, 1) := by decide +kernel
theorem dX9_dies_12 : decode cX9_dies 12 = .ok (.invokevirtual 224, 3) := by decide +kernel
theorem dX9_dies_15 : decode cX9_dies 15 = .ok (.istore_n 2, 1) := by decide +kernel
theorem dX9_dies_16 : decode cX9_dies 16 = .ok (.iload_n 2, 1) := by decide +kernel
theorem dX9_dies_17 : decode cX9_dies 17 = .ok (.bipush 99, 2) := by decide +kernel
theorem dX9_dies_19 : decode cX9_dies 19 = .ok (.if_icmp .ne 8, 3) := by decide +kernel
theorem dX9_dies_22 : decode cX9_dies 22 = .ok (.bipush (-9), 2) := by decide +kernel
theorem dX9_dies_24 : decode cX9_dies 24 = .ok (.goto 4, 3) := by decide +kernel
theorem dX9_dies_27 : decode cX9_dies 27 = .ok (.iload_n 2, 1) := by decide +kernel
theorem dX9_dies_28 : decode cX9_dies 28 = .ok (.ireturn, 1) := by decide +kernel
set_option maxRecDepth 20000 in
theorem ggX9_refusedFor_X9_noDeed : GoodIn wsX9_refusedFor wsX9_noDeed := goodIn_r _ [5, 6, 7, 8, 4, 9] (by decide +kernel) (by decide +kernel)
set_option maxRecDepth 20000 in
theorem gX9_refusedFor_X9_noDeed : GoodIn wsX9_refusedFor (va_wsS RX9 182 yX9_noDeed wsX9_noDeed) := goodIn_app (goodIn_of _ (by decide +kernel)) ggX9_refusedFor_X9_noDeed
set_option maxRecDepth 20000 in
theorem ggX9_refusedFor_X9_isSeason : GoodIn wsX9_refusedFor wsX9_isSeason := goodIn_r _ [12, 13, 7, 8, 4, 9] (by decide +kernel) (by decide +kernel)
set_option maxRecDepth 20000 in
theorem gX9_refusedFor_X9_isSeason : GoodIn wsX9_refusedFor (va_wsS RX9 185 yX9_isSeason wsX9_isSeason) := goodIn_app (goodIn_of _ (by decide +kernel)) ggX9_refusedFor_X9_isSeason
theorem dX9_refusedFor_0 : decode cX9_refusedFor 0 = .ok (.iload_n 1, 1) := by decide +kernel
theorem dX9_refusedFor_1 : decode cX9_refusedFor 1 = .ok (.invokestatic 182, 3) := by decide +kernel
theorem dX9_refusedFor_4 : decode cX9_refusedFor 4 = .ok (.ifCond .eq 5, 3) := by decide +kernel
theorem dX9_refusedFor_7 : decode cX9_refusedFor 7 = .ok (.iconst (-1), 1) := by decide +kernel
theorem dX9_refusedFor_8 : decode cX9_refusedFor 8 = .ok (.ireturn, 1) := by decide +kernel
theorem dX9_refusedFor_9 : decode cX9_refusedFor 9 = .ok (.iload_n 2, 1) := by decide +kernel
theorem dX9_refusedFor_10 : decode cX9_refusedFor 10 = .ok (.invokestatic 185, 3) := by decide +kernel
theorem dX9_refusedFor_13 : decode cX9_refusedFor 13 = .ok (.ifCond .ne 6, 3) := by decide +kernel
theorem dX9_refusedFor_16 : decode cX9_refusedFor 16 = .ok (.bipush (-2), 2) := by decide +kernel
theorem dX9_refusedFor_18 : decode cX9_refusedFor 18 = .ok (.ireturn, 1) := by decide +kernel
theorem dX9_refusedFor_19 : decode cX9_refusedFor 19 = .ok (.aload_n 0, 1) := by decide +kernel
theorem dX9_refusedFor_20 : decode cX9_refusedFor 20 = .ok (.getfield 102, 3) := by decide +kernel
theorem dX9_refusedFor_23 : decode cX9_refusedFor 23 = .ok (.ifCond .ne 8, 3) := by decide +kernel
theorem dX9_refusedFor_26 : decode cX9_refusedFor 26 = .ok (.bipush (-3), 2) := by decide +kernel
theorem dX9_refusedFor_28 : decode cX9_refusedFor 28 = .ok (.goto 4, 3) := by decide +kernel
theorem dX9_refusedFor_31 : decode cX9_refusedFor 31 = .ok (.iconst 0, 1) := by decide +kernel
theorem dX9_refusedFor_32 : decode cX9_refusedFor 32 = .ok (.ireturn, 1) := by decide +kernel
set_option maxRecDepth 20000 in
theorem ggX9_free_X9_refusedFor : GoodIn wsX9_free wsX9_refusedFor := goodIn_r _ [5, 6, 7, 8, 4, 9, 10, 11, 12, 13, 14, 15, 16, 17, 75, 76, 77, 78, 79, 80, 81, 82, 83, 84, 85, 86, 87, 88, 89, 90, 91, 92, 93, 94, 95, 96, 97, 98, 99, 100, 101, 102, 103, 104, 105, 106, 107, 108, 109, 110, 111, 112] (by decide +kernel) (by decide +kernel)
set_option maxRecDepth 20000 in
theorem gX9_free_X9_refusedFor : GoodIn wsX9_free (wsV RX9 227 RX9 yX9_refusedFor wsX9_refusedFor) := goodIn_app (goodIn_of _ (by decide +kernel)) ggX9_free_X9_refusedFor
set_option maxRecDepth 20000 in
theorem ggX9_free_X9_begin : GoodIn wsX9_free wsX9_begin := goodIn_r _ [21, 6, 22, 23, 24, 25, 75, 76, 77, 78, 79, 80, 81, 82, 83, 84, 85, 86, 87, 88, 89, 90, 91, 92, 93, 94, 95, 96, 97, 98, 99, 100, 101, 102, 103, 104, 105, 106, 107, 108, 109, 110, 111, 112] (by decide +kernel) (by decide +kernel)
set_option maxRecDepth 20000 in
theorem gX9_free_X9_begin : GoodIn wsX9_free (wsV RX9 208 RX9 yX9_begin wsX9_begin) := goodIn_app (goodIn_of _ (by decide +kernel)) ggX9_free_X9_begin
set_option maxRecDepth 20000 in
theorem ggX9_free_X9_goSeason : GoodIn wsX9_free wsX9_goSeason := goodIn_r _ [29, 30, 22, 31, 32, 33, 34, 35, 24, 36, 37, 38, 39, 4, 40, 41, 25, 6, 42, 43, 44, 45, 46, 47, 48, 49, 50, 51, 52, 53, 54, 55, 56, 57, 58, 59, 60, 61, 62, 63, 64, 75, 76, 77, 78, 79, 80, 81, 82, 83, 84, 85, 86, 87, 88, 89, 90, 91, 92, 93, 94, 95, 96, 97, 98, 99, 100, 101, 102, 103, 104, 105, 106, 107, 108, 109, 110, 111, 112] (by decide +kernel) (by decide +kernel)
set_option maxRecDepth 20000 in
theorem gX9_free_X9_goSeason : GoodIn wsX9_free (wsV RX9 211 RX9 yX9_goSeason wsX9_goSeason) := goodIn_app (goodIn_of _ (by decide +kernel)) ggX9_free_X9_goSeason
set_option maxRecDepth 20000 in
theorem ggX9_free_X9_forbiddenIn : GoodIn wsX9_free wsX9_forbiddenIn := goodIn_r _ [68, 34, 69, 70, 71, 72, 73, 4, 74, 6, 47, 48, 49, 50, 24, 51, 52, 53, 54, 55, 56, 75, 76, 77, 78, 79, 80, 81, 82, 83, 84, 85, 86, 87, 88, 89, 90, 91, 92, 93, 94, 95, 96, 97, 98, 99, 100, 101, 102, 103, 104, 105, 106, 107, 108, 109, 110, 111, 112] (by decide +kernel) (by decide +kernel)
set_option maxRecDepth 20000 in
theorem gX9_free_X9_forbiddenIn : GoodIn wsX9_free (wsV RX9 221 RX9 yX9_forbiddenIn wsX9_forbiddenIn) := goodIn_app (goodIn_of _ (by decide +kernel)) ggX9_free_X9_forbiddenIn
set_option maxRecDepth 20000 in
theorem ggX9_free_X9_isIn : GoodIn wsX9_free wsX9_isIn := goodIn_r _ [64] (by decide +kernel) (by decide +kernel)
set_option maxRecDepth 20000 in
theorem gX9_free_X9_isIn : GoodIn wsX9_free (va_wsS RX9 179 yX9_isIn wsX9_isIn) := goodIn_app (goodIn_of _ (by decide +kernel)) ggX9_free_X9_isIn
theorem dX9_free_0 : decode cX9_free 0 = .ok (.aload_n 0, 1) := by decide +kernel
theorem dX9_free_1 : decode cX9_free 1 = .ok (.iload_n 1, 1) := by decide +kernel
theorem dX9_free_2 : decode cX9_free 2 = .ok (.iload_n 2, 1) := by decide +kernel
theorem dX9_free_3 : decode cX9_free 3 = .ok (.invokevirtual 227, 3) := by decide +kernel
theorem dX9_free_6 : decode cX9_free 6 = .ok (.istore_n 3, 1) := by decide +kernel
theorem dX9_free_7 : decode cX9_free 7 = .ok (.iload_n 3, 1) := by decide +kernel
theorem dX9_free_8 : decode cX9_free 8 = .ok (.ifCond .ge 5, 3) := by decide +kernel
theorem dX9_free_11 : decode cX9_free 11 = .ok (.iload_n 3, 1) := by decide +kernel
theorem dX9_free_12 : decode cX9_free 12 = .ok (.ireturn, 1) := by decide +kernel
theorem dX9_free_13 : decode cX9_free 13 = .ok (.aload_n 0, 1) := by decide +kernel
theorem dX9_free_14 : decode cX9_free 14 = .ok (.invokevirtual 208, 3) := by decide +kernel
theorem dX9_free_17 : decode cX9_free 17 = .ok (.iconst 0, 1) := by decide +kernel
theorem dX9_free_18 : decode cX9_free 18 = .ok (.istore 4, 2) := by decide +kernel
theorem dX9_free_20 : decode cX9_free 20 = .ok (.iload 4, 2) := by decide +kernel
theorem dX9_free_22 : decode cX9_free 22 = .ok (.bipush 40, 2) := by decide +kernel
theorem dX9_free_24 : decode cX9_free 24 = .ok (.if_icmp .ge 37, 3) := by decide +kernel
theorem dX9_free_27 : decode cX9_free 27 = .ok (.aload_n 0, 1) := by decide +kernel
theorem dX9_free_28 : decode cX9_free 28 = .ok (.iload 4, 2) := by decide +kernel
theorem dX9_free_30 : decode cX9_free 30 = .ok (.invokevirtual 211, 3) := by decide +kernel
theorem dX9_free_33 : decode cX9_free 33 = .ok (.iload 4, 2) := by decide +kernel
theorem dX9_free_35 : decode cX9_free 35 = .ok (.iload_n 2, 1) := by decide +kernel
theorem dX9_free_36 : decode cX9_free 36 = .ok (.if_icmp .lt 19, 3) := by decide +kernel
theorem dX9_free_39 : decode cX9_free 39 = .ok (.aload_n 0, 1) := by decide +kernel
theorem dX9_free_40 : decode cX9_free 40 = .ok (.iload 4, 2) := by decide +kernel
theorem dX9_free_42 : decode cX9_free 42 = .ok (.invokevirtual 221, 3) := by decide +kernel
theorem dX9_free_45 : decode cX9_free 45 = .ok (.iload_n 1, 1) := by decide +kernel
theorem dX9_free_46 : decode cX9_free 46 = .ok (.invokestatic 179, 3) := by decide +kernel
theorem dX9_free_49 : decode cX9_free 49 = .ok (.ifCond .ne 6, 3) := by decide +kernel
theorem dX9_free_52 : decode cX9_free 52 = .ok (.iload 4, 2) := by decide +kernel
theorem dX9_free_54 : decode cX9_free 54 = .ok (.ireturn, 1) := by decide +kernel
theorem dX9_free_55 : decode cX9_free 55 = .ok (.iinc 4 1, 3) := by decide +kernel
theorem dX9_free_58 : decode cX9_free 58 = .ok (.goto (-38), 3) := by decide +kernel
theorem dX9_free_61 : decode cX9_free 61 = .ok (.bipush (-9), 2) := by decide +kernel
theorem dX9_free_63 : decode cX9_free 63 = .ok (.ireturn, 1) := by decide +kernel
set_option maxRecDepth 20000 in
theorem ggX9_fewest_X9_refusedFor : GoodIn wsX9_fewest wsX9_refusedFor := goodIn_r _ [6, 7, 8, 9, 5, 10, 11, 12, 13, 14, 15, 16, 17, 18, 90, 91, 92, 93, 94, 95, 96, 97, 98, 99, 100, 101, 102, 103, 104, 105, 106, 107, 108, 109, 110, 111, 112, 113, 114, 115, 116, 117, 118, 119, 120, 121, 122, 123, 124, 125, 126, 127] (by decide +kernel) (by decide +kernel)
set_option maxRecDepth 20000 in
theorem gX9_fewest_X9_refusedFor : GoodIn wsX9_fewest (wsV RX9 227 RX9 yX9_refusedFor wsX9_refusedFor) := goodIn_app (goodIn_of _ (by decide +kernel)) ggX9_fewest_X9_refusedFor
set_option maxRecDepth 20000 in
theorem ggX9_fewest_X9_all : GoodIn wsX9_fewest wsX9_all := goodIn_r _ [22, 7, 90, 91, 92, 93, 94, 95, 96, 97, 98, 99, 100, 101, 102, 103, 104, 105, 106, 107, 108, 109, 110, 111, 112, 113, 114, 115, 116, 117, 118, 119, 120, 121, 122, 123, 124, 125, 126, 127] (by decide +kernel) (by decide +kernel)
set_option maxRecDepth 20000 in
theorem gX9_fewest_X9_all : GoodIn wsX9_fewest (wsV RX9 230 RX9 yX9_all wsX9_all) := goodIn_app (goodIn_of _ (by decide +kernel)) ggX9_fewest_X9_all
set_option maxRecDepth 20000 in
theorem ggX9_fewest_X9_bits : GoodIn wsX9_fewest wsX9_bits := goodIn_r _ [25] (by decide +kernel) (by decide +kernel)
set_option maxRecDepth 20000 in
theorem gX9_fewest_X9_bits : GoodIn wsX9_fewest (va_wsS RX9 234 yX9_bits wsX9_bits) := goodIn_app (goodIn_of _ (by decide +kernel)) ggX9_fewest_X9_bits
set_option maxRecDepth 20000 in
theorem ggX9_fewest_X9_isForbidden : GoodIn wsX9_fewest wsX9_isForbidden := goodIn_r _ [29, 30, 31, 32, 5, 33, 34, 35, 36, 37, 7, 38, 39, 40, 41, 42, 43, 44, 45, 46, 47, 48, 49, 50, 51, 52, 53, 54, 55, 56, 57, 1, 58, 59, 60, 61, 62, 63, 64, 65, 66, 67, 68, 69, 70, 71, 72, 73, 74, 75, 76, 77, 78, 79, 80, 81, 82, 83, 84, 85, 86, 87, 88, 89, 90, 91, 92, 93, 94, 95, 96, 97, 98, 99, 100, 101, 102, 103, 104, 105, 106, 107, 108, 109, 110, 111, 112, 113, 114, 115, 116, 117, 118, 119, 120, 121, 122, 123, 124, 125, 126, 127] (by decide +kernel) (by decide +kernel)
set_option maxRecDepth 20000 in
theorem gX9_fewest_X9_isForbidden : GoodIn wsX9_fewest (wsV RX9 237 RX9 yX9_isForbidden wsX9_isForbidden) := goodIn_app (goodIn_of _ (by decide +kernel)) ggX9_fewest_X9_isForbidden
theorem dX9_fewest_0 : decode cX9_fewest 0 = .ok (.aload_n 0, 1) := by decide +kernel
theorem dX9_fewest_1 : decode cX9_fewest 1 = .ok (.iload_n 1, 1) := by decide +kernel
theorem dX9_fewest_2 : decode cX9_fewest 2 = .ok (.iload_n 2, 1) := by decide +kernel
theorem dX9_fewest_3 : decode cX9_fewest 3 = .ok (.invokevirtual 227, 3) := by decide +kernel
theorem dX9_fewest_6 : decode cX9_fewest 6 = .ok (.istore_n 3, 1) := by decide +kernel
theorem dX9_fewest_7 : decode cX9_fewest 7 = .ok (.iload_n 3, 1) := by decide +kernel
theorem dX9_fewest_8 : decode cX9_fewest 8 = .ok (.ifCond .ge 5, 3) := by decide +kernel
theorem dX9_fewest_11 : decode cX9_fewest 11 = .ok (.iload_n 3, 1) := by decide +kernel
theorem dX9_fewest_12 : decode cX9_fewest 12 = .ok (.ireturn, 1) := by decide +kernel
theorem dX9_fewest_13 : decode cX9_fewest 13 = .ok (.aload_n 0, 1) := by decide +kernel
theorem dX9_fewest_14 : decode cX9_fewest 14 = .ok (.getfield 158, 3) := by decide +kernel
theorem dX9_fewest_17 : decode cX9_fewest 17 = .ok (.istore 4, 2) := by decide +kernel
theorem dX9_fewest_19 : decode cX9_fewest 19 = .ok (.bipush (-9), 2) := by decide +kernel
theorem dX9_fewest_21 : decode cX9_fewest 21 = .ok (.istore 5, 2) := by decide +kernel
theorem dX9_fewest_23 : decode cX9_fewest 23 = .ok (.iconst 0, 1) := by decide +kernel
theorem dX9_fewest_24 : decode cX9_fewest 24 = .ok (.istore 6, 2) := by decide +kernel
theorem dX9_fewest_26 : decode cX9_fewest 26 = .ok (.iload 6, 2) := by decide +kernel
theorem dX9_fewest_28 : decode cX9_fewest 28 = .ok (.aload_n 0, 1) := by decide +kernel
theorem dX9_fewest_29 : decode cX9_fewest 29 = .ok (.invokevirtual 230, 3) := by decide +kernel
theorem dX9_fewest_32 : decode cX9_fewest 32 = .ok (.if_icmp .gt 62, 3) := by decide +kernel
theorem dX9_fewest_35 : decode cX9_fewest 35 = .ok (.iload 6, 2) := by decide +kernel
theorem dX9_fewest_37 : decode cX9_fewest 37 = .ok (.iload 4, 2) := by decide +kernel
theorem dX9_fewest_39 : decode cX9_fewest 39 = .ok (.iand, 1) := by decide +kernel
theorem dX9_fewest_40 : decode cX9_fewest 40 = .ok (.ifCond .ne 48, 3) := by decide +kernel
theorem dX9_fewest_43 : decode cX9_fewest 43 = .ok (.iload 5, 2) := by decide +kernel
theorem dX9_fewest_45 : decode cX9_fewest 45 = .ok (.ifCond .lt 16, 3) := by decide +kernel
theorem dX9_fewest_48 : decode cX9_fewest 48 = .ok (.iload 6, 2) := by decide +kernel
theorem dX9_fewest_50 : decode cX9_fewest 50 = .ok (.invokestatic 234, 3) := by decide +kernel
theorem dX9_fewest_53 : decode cX9_fewest 53 = .ok (.iload 5, 2) := by decide +kernel
theorem dX9_fewest_55 : decode cX9_fewest 55 = .ok (.invokestatic 234, 3) := by decide +kernel
theorem dX9_fewest_58 : decode cX9_fewest 58 = .ok (.if_icmp .ge 30, 3) := by decide +kernel
theorem dX9_fewest_61 : decode cX9_fewest 61 = .ok (.aload_n 0, 1) := by decide +kernel
theorem dX9_fewest_62 : decode cX9_fewest 62 = .ok (.iload 4, 2) := by decide +kernel
theorem dX9_fewest_64 : decode cX9_fewest 64 = .ok (.iload 6, 2) := by decide +kernel
theorem dX9_fewest_66 : decode cX9_fewest 66 = .ok (.ior, 1) := by decide +kernel
theorem dX9_fewest_67 : decode cX9_fewest 67 = .ok (.putfield 158, 3) := by decide +kernel
theorem dX9_fewest_70 : decode cX9_fewest 70 = .ok (.aload_n 0, 1) := by decide +kernel
theorem dX9_fewest_71 : decode cX9_fewest 71 = .ok (.iload_n 1, 1) := by decide +kernel
theorem dX9_fewest_72 : decode cX9_fewest 72 = .ok (.iload_n 2, 1) := by decide +kernel
theorem dX9_fewest_73 : decode cX9_fewest 73 = .ok (.invokevirtual 237, 3) := by decide +kernel
theorem dX9_fewest_76 : decode cX9_fewest 76 = .ok (.ifCond .eq 8, 3) := by decide +kernel
theorem dX9_fewest_79 : decode cX9_fewest 79 = .ok (.iload 5, 2) := by decide +kernel
theorem dX9_fewest_81 : decode cX9_fewest 81 = .ok (.goto 5, 3) := by decide +kernel
theorem dX9_fewest_84 : decode cX9_fewest 84 = .ok (.iload 6, 2) := by decide +kernel
theorem dX9_fewest_86 : decode cX9_fewest 86 = .ok (.istore 5, 2) := by decide +kernel
theorem dX9_fewest_88 : decode cX9_fewest 88 = .ok (.iinc 6 1, 3) := by decide +kernel
theorem dX9_fewest_91 : decode cX9_fewest 91 = .ok (.goto (-65), 3) := by decide +kernel
theorem dX9_fewest_94 : decode cX9_fewest 94 = .ok (.aload_n 0, 1) := by decide +kernel
theorem dX9_fewest_95 : decode cX9_fewest 95 = .ok (.iload 4, 2) := by decide +kernel
theorem dX9_fewest_97 : decode cX9_fewest 97 = .ok (.putfield 158, 3) := by decide +kernel
theorem dX9_fewest_100 : decode cX9_fewest 100 = .ok (.iload 5, 2) := by decide +kernel
theorem dX9_fewest_102 : decode cX9_fewest 102 = .ok (.ireturn, 1) := by decide +kernel
set_option maxRecDepth 20000 in
theorem ggX9_longest_X9_isSeason : GoodIn wsX9_longest wsX9_isSeason := goodIn_r _ [10, 11, 12, 13, 9, 14] (by decide +kernel) (by decide +kernel)
set_option maxRecDepth 20000 in
theorem gX9_longest_X9_isSeason : GoodIn wsX9_longest (va_wsS RX9 185 yX9_isSeason wsX9_isSeason) := goodIn_app (goodIn_of _ (by decide +kernel)) ggX9_longest_X9_isSeason
set_option maxRecDepth 20000 in
theorem ggX9_longest_X9_in : GoodIn wsX9_longest wsX9_in := goodIn_r _ [14] (by decide +kernel) (by decide +kernel)
set_option maxRecDepth 20000 in
theorem gX9_longest_X9_in : GoodIn wsX9_longest (va_wsS RX9 105 yX9_in wsX9_in) := goodIn_app (goodIn_of _ (by decide +kernel)) ggX9_longest_X9_in
set_option maxRecDepth 20000 in
theorem ggX9_longest_X9_endOf : GoodIn wsX9_longest wsX9_endOf := goodIn_r _ [18, 4, 19, 20, 21, 9, 22, 1, 23, 24, 25, 26, 27, 28, 29, 30, 31, 32, 33, 34, 2, 6, 35, 36, 37, 38, 39, 40, 41, 42, 43, 44, 45, 46, 47, 48, 49, 50, 51, 52, 53, 54, 55, 56, 57, 58, 59, 60, 61, 62, 63, 64, 65, 66, 67, 68, 69, 70, 71, 72, 73, 74, 75, 76, 77, 78, 79, 80, 81, 82, 83, 84, 85, 86, 87, 88, 89, 90, 91, 92, 93, 94, 95, 96, 97, 98, 99, 100, 101, 102, 103, 104] (by decide +kernel) (by decide +kernel)
set_option maxRecDepth 20000 in
theorem gX9_longest_X9_endOf : GoodIn wsX9_longest (wsV RX9 224 RX9 yX9_endOf wsX9_endOf) := goodIn_app (goodIn_of _ (by decide +kernel)) ggX9_longest_X9_endOf
theorem dX9_longest_0 : decode cX9_longest 0 = .ok (.iload_n 1, 1) := by decide +kernel
theorem dX9_longest_1 : decode cX9_longest 1 = .ok (.invokestatic 185, 3) := by decide +kernel
theorem dX9_longest_4 : decode cX9_longest 4 = .ok (.ifCond .eq 13, 3) := by decide +kernel
theorem dX9_longest_7 : decode cX9_longest 7 = .ok (.iload_n 2, 1) := by decide +kernel
theorem dX9_longest_8 : decode cX9_longest 8 = .ok (.i2l, 1) := by decide +kernel
theorem dX9_longest_9 : decode cX9_longest 9 = .ok (.lconst 0, 1) := by decide +kernel
theorem dX9_longest_10 : decode cX9_longest 10 = .ok (.lconst 1, 1) := by decide +kernel
theorem dX9_longest_11 : decode cX9_longest 11 = .ok (.invokestatic 105, 3) := by decide +kernel
theorem dX9_longest_14 : decode cX9_longest 14 = .ok (.ifCond .ne 6, 3) := by decide +kernel
theorem dX9_longest_17 : decode cX9_longest 17 = .ok (.bipush (-2), 2) := by decide +kernel
theorem dX9_longest_19 : decode cX9_longest 19 = .ok (.ireturn, 1) := by decide +kernel
theorem dX9_longest_20 : decode cX9_longest 20 = .ok (.aload_n 0, 1) := by decide +kernel
theorem dX9_longest_21 : decode cX9_longest 21 = .ok (.getfield 102, 3) := by decide +kernel
theorem dX9_longest_24 : decode cX9_longest 24 = .ok (.ifCond .ne 6, 3) := by decide +kernel
theorem dX9_longest_27 : decode cX9_longest 27 = .ok (.bipush (-3), 2) := by decide +kernel
theorem dX9_longest_29 : decode cX9_longest 29 = .ok (.ireturn, 1) := by decide +kernel
theorem dX9_longest_30 : decode cX9_longest 30 = .ok (.aload_n 0, 1) := by decide +kernel
theorem dX9_longest_31 : decode cX9_longest 31 = .ok (.getfield 109, 3) := by decide +kernel
theorem dX9_longest_34 : decode cX9_longest 34 = .ok (.bipush 6, 2) := by decide +kernel
theorem dX9_longest_36 : decode cX9_longest 36 = .ok (.if_icmp .ne 6, 3) := by decide +kernel
theorem dX9_longest_39 : decode cX9_longest 39 = .ok (.bipush (-4), 2) := by decide +kernel
theorem dX9_longest_41 : decode cX9_longest 41 = .ok (.ireturn, 1) := by decide +kernel
theorem dX9_longest_42 : decode cX9_longest 42 = .ok (.bipush (-9), 2) := by decide +kernel
theorem dX9_longest_44 : decode cX9_longest 44 = .ok (.istore_n 3, 1) := by decide +kernel
theorem dX9_longest_45 : decode cX9_longest 45 = .ok (.iconst (-1), 1) := by decide +kernel
theorem dX9_longest_46 : decode cX9_longest 46 = .ok (.istore 4, 2) := by decide +kernel
theorem dX9_longest_48 : decode cX9_longest 48 = .ok (.aload_n 0, 1) := by decide +kernel
theorem dX9_longest_49 : decode cX9_longest 49 = .ok (.dup, 1) := by decide +kernel
theorem dX9_longest_50 : decode cX9_longest 50 = .ok (.getfield 109, 3) := by decide +kernel
theorem dX9_longest_53 : decode cX9_longest 53 = .ok (.iconst 1, 1) := by decide +kernel
theorem dX9_longest_54 : decode cX9_longest 54 = .ok (.iadd, 1) := by decide +kernel
theorem dX9_longest_55 : decode cX9_longest 55 = .ok (.putfield 109, 3) := by decide +kernel
theorem dX9_longest_58 : decode cX9_longest 58 = .ok (.aload_n 0, 1) := by decide +kernel
theorem dX9_longest_59 : decode cX9_longest 59 = .ok (.getfield 28, 3) := by decide +kernel
theorem dX9_longest_62 : decode cX9_longest 62 = .ok (.aload_n 0, 1) := by decide +kernel
theorem dX9_longest_63 : decode cX9_longest 63 = .ok (.getfield 109, 3) := by decide +kernel
theorem dX9_longest_66 : decode cX9_longest 66 = .ok (.iconst 1, 1) := by decide +kernel
theorem dX9_longest_67 : decode cX9_longest 67 = .ok (.isub, 1) := by decide +kernel
theorem dX9_longest_68 : decode cX9_longest 68 = .ok (.iconst 0, 1) := by decide +kernel
theorem dX9_longest_69 : decode cX9_longest 69 = .ok (.iastore, 1) := by decide +kernel
theorem dX9_longest_70 : decode cX9_longest 70 = .ok (.aload_n 0, 1) := by decide +kernel
theorem dX9_longest_71 : decode cX9_longest 71 = .ok (.getfield 34, 3) := by decide +kernel
theorem dX9_longest_74 : decode cX9_longest 74 = .ok (.aload_n 0, 1) := by decide +kernel
theorem dX9_longest_75 : decode cX9_longest 75 = .ok (.getfield 109, 3) := by decide +kernel
theorem dX9_longest_78 : decode cX9_longest 78 = .ok (.iconst 1, 1) := by decide +kernel
theorem dX9_longest_79 : decode cX9_longest 79 = .ok (.isub, 1) := by decide +kernel
theorem dX9_longest_80 : decode cX9_longest 80 = .ok (.iload_n 1, 1) := by decide +kernel
theorem dX9_longest_81 : decode cX9_longest 81 = .ok (.iastore, 1) := by decide +kernel
theorem dX9_longest_82 : decode cX9_longest 82 = .ok (.aload_n 0, 1) := by decide +kernel
theorem dX9_longest_83 : decode cX9_longest 83 = .ok (.getfield 37, 3) := by decide +kernel
theorem dX9_longest_86 : decode cX9_longest 86 = .ok (.aload_n 0, 1) := by decide +kernel
theorem dX9_longest_87 : decode cX9_longest 87 = .ok (.getfield 109, 3) := by decide +kernel
theorem dX9_longest_90 : decode cX9_longest 90 = .ok (.iconst 1, 1) := by decide +kernel
theorem dX9_longest_91 : decode cX9_longest 91 = .ok (.isub, 1) := by decide +kernel
theorem dX9_longest_92 : decode cX9_longest 92 = .ok (.iconst 0, 1) := by decide +kernel
theorem dX9_longest_93 : decode cX9_longest 93 = .ok (.bastore, 1) := by decide +kernel
theorem dX9_longest_94 : decode cX9_longest 94 = .ok (.iconst 0, 1) := by decide +kernel
theorem dX9_longest_95 : decode cX9_longest 95 = .ok (.istore 5, 2) := by decide +kernel
theorem dX9_longest_97 : decode cX9_longest 97 = .ok (.iload 5, 2) := by decide +kernel
theorem dX9_longest_99 : decode cX9_longest 99 = .ok (.aload_n 0, 1) := by decide +kernel
theorem dX9_longest_100 : decode cX9_longest 100 = .ok (.getfield 102, 3) := by decide +kernel
theorem dX9_longest_103 : decode cX9_longest 103 = .ok (.if_icmp .ge 64, 3) := by decide +kernel
theorem dX9_longest_106 : decode cX9_longest 106 = .ok (.aload_n 0, 1) := by decide +kernel
theorem dX9_longest_107 : decode cX9_longest 107 = .ok (.getfield 31, 3) := by decide +kernel
theorem dX9_longest_110 : decode cX9_longest 110 = .ok (.aload_n 0, 1) := by decide +kernel
theorem dX9_longest_111 : decode cX9_longest 111 = .ok (.getfield 109, 3) := by decide +kernel
theorem dX9_longest_114 : decode cX9_longest 114 = .ok (.iconst 1, 1) := by decide +kernel
theorem dX9_longest_115 : decode cX9_longest 115 = .ok (.isub, 1) := by decide +kernel
theorem dX9_longest_116 : decode cX9_longest 116 = .ok (.iload 5, 2) := by decide +kernel
theorem dX9_longest_118 : decode cX9_longest 118 = .ok (.iastore, 1) := by decide +kernel
theorem dX9_longest_119 : decode cX9_longest 119 = .ok (.aload_n 0, 1) := by decide +kernel
theorem dX9_longest_120 : decode cX9_longest 120 = .ok (.aload_n 0, 1) := by decide +kernel
theorem dX9_longest_121 : decode cX9_longest 121 = .ok (.getfield 109, 3) := by decide +kernel
theorem dX9_longest_124 : decode cX9_longest 124 = .ok (.iconst 1, 1) := by decide +kernel
theorem dX9_longest_125 : decode cX9_longest 125 = .ok (.isub, 1) := by decide +kernel
theorem dX9_longest_126 : decode cX9_longest 126 = .ok (.invokevirtual 224, 3) := by decide +kernel
theorem dX9_longest_129 : decode cX9_longest 129 = .ok (.istore 6, 2) := by decide +kernel
theorem dX9_longest_131 : decode cX9_longest 131 = .ok (.iload 6, 2) := by decide +kernel
theorem dX9_longest_133 : decode cX9_longest 133 = .ok (.iload 4, 2) := by decide +kernel
theorem dX9_longest_135 : decode cX9_longest 135 = .ok (.if_icmp .le 8, 3) := by decide +kernel
theorem dX9_longest_138 : decode cX9_longest 138 = .ok (.iload 5, 2) := by decide +kernel
theorem dX9_longest_140 : decode cX9_longest 140 = .ok (.goto 4, 3) := by decide +kernel
theorem dX9_longest_143 : decode cX9_longest 143 = .ok (.iload_n 3, 1) := by decide +kernel
theorem dX9_longest_144 : decode cX9_longest 144 = .ok (.istore_n 3, 1) := by decide +kernel
theorem dX9_longest_145 : decode cX9_longest 145 = .ok (.iload 6, 2) := by decide +kernel
theorem dX9_longest_147 : decode cX9_longest 147 = .ok (.iload 4, 2) := by decide +kernel
theorem dX9_longest_149 : decode cX9_longest 149 = .ok (.if_icmp .le 8, 3) := by decide +kernel
theorem dX9_longest_152 : decode cX9_longest 152 = .ok (.iload 6, 2) := by decide +kernel
theorem dX9_longest_154 : decode cX9_longest 154 = .ok (.goto 5, 3) := by decide +kernel
theorem dX9_longest_157 : decode cX9_longest 157 = .ok (.iload 4, 2) := by decide +kernel
theorem dX9_longest_159 : decode cX9_longest 159 = .ok (.istore 4, 2) := by decide +kernel
theorem dX9_longest_161 : decode cX9_longest 161 = .ok (.iinc 5 1, 3) := by decide +kernel
theorem dX9_longest_164 : decode cX9_longest 164 = .ok (.goto (-67), 3) := by decide +kernel
theorem dX9_longest_167 : decode cX9_longest 167 = .ok (.aload_n 0, 1) := by decide +kernel
theorem dX9_longest_168 : decode cX9_longest 168 = .ok (.dup, 1) := by decide +kernel
theorem dX9_longest_169 : decode cX9_longest 169 = .ok (.getfield 109, 3) := by decide +kernel
theorem dX9_longest_172 : decode cX9_longest 172 = .ok (.iconst 1, 1) := by decide +kernel
theorem dX9_longest_173 : decode cX9_longest 173 = .ok (.isub, 1) := by decide +kernel
theorem dX9_longest_174 : decode cX9_longest 174 = .ok (.putfield 109, 3) := by decide +kernel
theorem dX9_longest_177 : decode cX9_longest 177 = .ok (.iload_n 2, 1) := by decide +kernel
theorem dX9_longest_178 : decode cX9_longest 178 = .ok (.ifCond .ne 7, 3) := by decide +kernel
theorem dX9_longest_181 : decode cX9_longest 181 = .ok (.iload_n 3, 1) := by decide +kernel
theorem dX9_longest_182 : decode cX9_longest 182 = .ok (.goto 17, 3) := by decide +kernel
theorem dX9_longest_185 : decode cX9_longest 185 = .ok (.iload 4, 2) := by decide +kernel
theorem dX9_longest_187 : decode cX9_longest 187 = .ok (.bipush 99, 2) := by decide +kernel
theorem dX9_longest_189 : decode cX9_longest 189 = .ok (.if_icmp .ne 8, 3) := by decide +kernel
theorem dX9_longest_192 : decode cX9_longest 192 = .ok (.bipush (-9), 2) := by decide +kernel
theorem dX9_longest_194 : decode cX9_longest 194 = .ok (.goto 5, 3) := by decide +kernel
theorem dX9_longest_197 : decode cX9_longest 197 = .ok (.iload 4, 2) := by decide +kernel
theorem dX9_longest_199 : decode cX9_longest 199 = .ok (.ireturn, 1) := by decide +kernel
set_option maxRecDepth 20000 in
theorem ggX9_need_X9_noDeed : GoodIn wsX9_need wsX9_noDeed := goodIn_r _ [8, 9, 10, 11, 7, 12] (by decide +kernel) (by decide +kernel)
set_option maxRecDepth 20000 in
theorem gX9_need_X9_noDeed : GoodIn wsX9_need (va_wsS RX9 182 yX9_noDeed wsX9_noDeed) := goodIn_app (goodIn_of _ (by decide +kernel)) ggX9_need_X9_noDeed
theorem dX9_need_0 : decode cX9_need 0 = .ok (.iload_n 1, 1) := by decide +kernel
theorem dX9_need_1 : decode cX9_need 1 = .ok (.invokestatic 182, 3) := by decide +kernel
theorem dX9_need_4 : decode cX9_need 4 = .ok (.ifCond .ne 10, 3) := by decide +kernel
theorem dX9_need_7 : decode cX9_need 7 = .ok (.iload_n 2, 1) := by decide +kernel
theorem dX9_need_8 : decode cX9_need 8 = .ok (.invokestatic 182, 3) := by decide +kernel
theorem dX9_need_11 : decode cX9_need 11 = .ok (.ifCond .eq 5, 3) := by decide +kernel
theorem dX9_need_14 : decode cX9_need 14 = .ok (.iconst (-1), 1) := by decide +kernel
theorem dX9_need_15 : decode cX9_need 15 = .ok (.ireturn, 1) := by decide +kernel
theorem dX9_need_16 : decode cX9_need 16 = .ok (.aload_n 0, 1) := by decide +kernel
theorem dX9_need_17 : decode cX9_need 17 = .ok (.getfield 102, 3) := by decide +kernel
theorem dX9_need_20 : decode cX9_need 20 = .ok (.ifCond .ne 6, 3) := by decide +kernel
theorem dX9_need_23 : decode cX9_need 23 = .ok (.bipush (-3), 2) := by decide +kernel
theorem dX9_need_25 : decode cX9_need 25 = .ok (.ireturn, 1) := by decide +kernel
theorem dX9_need_26 : decode cX9_need 26 = .ok (.aload_n 0, 1) := by decide +kernel
theorem dX9_need_27 : decode cX9_need 27 = .ok (.getfield 167, 3) := by decide +kernel
theorem dX9_need_30 : decode cX9_need 30 = .ok (.bipush 6, 2) := by decide +kernel
theorem dX9_need_32 : decode cX9_need 32 = .ok (.if_icmp .ne 6, 3) := by decide +kernel
theorem dX9_need_35 : decode cX9_need 35 = .ok (.bipush (-4), 2) := by decide +kernel
theorem dX9_need_37 : decode cX9_need 37 = .ok (.ireturn, 1) := by decide +kernel
theorem dX9_need_38 : decode cX9_need 38 = .ok (.aload_n 0, 1) := by decide +kernel
theorem dX9_need_39 : decode cX9_need 39 = .ok (.getfield 62, 3) := by decide +kernel
theorem dX9_need_42 : decode cX9_need 42 = .ok (.aload_n 0, 1) := by decide +kernel
theorem dX9_need_43 : decode cX9_need 43 = .ok (.getfield 167, 3) := by decide +kernel
theorem dX9_need_46 : decode cX9_need 46 = .ok (.iload_n 1, 1) := by decide +kernel
theorem dX9_need_47 : decode cX9_need 47 = .ok (.iastore, 1) := by decide +kernel
theorem dX9_need_48 : decode cX9_need 48 = .ok (.aload_n 0, 1) := by decide +kernel
theorem dX9_need_49 : decode cX9_need 49 = .ok (.getfield 65, 3) := by decide +kernel
theorem dX9_need_52 : decode cX9_need 52 = .ok (.aload_n 0, 1) := by decide +kernel
theorem dX9_need_53 : decode cX9_need 53 = .ok (.getfield 167, 3) := by decide +kernel
theorem dX9_need_56 : decode cX9_need 56 = .ok (.iload_n 2, 1) := by decide +kernel
theorem dX9_need_57 : decode cX9_need 57 = .ok (.iastore, 1) := by decide +kernel
theorem dX9_need_58 : decode cX9_need 58 = .ok (.aload_n 0, 1) := by decide +kernel
theorem dX9_need_59 : decode cX9_need 59 = .ok (.dup, 1) := by decide +kernel
theorem dX9_need_60 : decode cX9_need 60 = .ok (.getfield 167, 3) := by decide +kernel
theorem dX9_need_63 : decode cX9_need 63 = .ok (.iconst 1, 1) := by decide +kernel
theorem dX9_need_64 : decode cX9_need 64 = .ok (.iadd, 1) := by decide +kernel
theorem dX9_need_65 : decode cX9_need 65 = .ok (.putfield 167, 3) := by decide +kernel
theorem dX9_need_68 : decode cX9_need 68 = .ok (.aload_n 0, 1) := by decide +kernel
theorem dX9_need_69 : decode cX9_need 69 = .ok (.getfield 167, 3) := by decide +kernel
theorem dX9_need_72 : decode cX9_need 72 = .ok (.iconst 1, 1) := by decide +kernel
theorem dX9_need_73 : decode cX9_need 73 = .ok (.isub, 1) := by decide +kernel
theorem dX9_need_74 : decode cX9_need 74 = .ok (.ireturn, 1) := by decide +kernel
set_option maxRecDepth 20000 in
theorem ggX9_clash_X9_in : GoodIn wsX9_clash wsX9_in := goodIn_r _ [8] (by decide +kernel) (by decide +kernel)
set_option maxRecDepth 20000 in
theorem gX9_clash_X9_in : GoodIn wsX9_clash (va_wsS RX9 105 yX9_in wsX9_in) := goodIn_app (goodIn_of _ (by decide +kernel)) ggX9_clash_X9_in
set_option maxRecDepth 20000 in
theorem ggX9_clash_X9_begin : GoodIn wsX9_clash wsX9_begin := goodIn_r _ [12, 1, 13, 14, 15, 16, 66, 67, 68, 69, 70, 71, 72, 73, 74, 75, 76, 77, 78, 79, 80, 81, 82, 83, 84, 85, 86, 87, 88, 89, 90, 91, 92, 93, 94, 95, 96, 97, 98, 99, 100, 101, 102, 103] (by decide +kernel) (by decide +kernel)
set_option maxRecDepth 20000 in
theorem gX9_clash_X9_begin : GoodIn wsX9_clash (wsV RX9 208 RX9 yX9_begin wsX9_begin) := goodIn_app (goodIn_of _ (by decide +kernel)) ggX9_clash_X9_begin
set_option maxRecDepth 20000 in
theorem ggX9_clash_X9_goSeason : GoodIn wsX9_clash wsX9_goSeason := goodIn_r _ [20, 21, 13, 22, 23, 24, 25, 26, 15, 27, 28, 29, 30, 7, 31, 32, 16, 1, 33, 34, 35, 36, 37, 38, 39, 40, 41, 42, 43, 44, 45, 46, 47, 48, 49, 50, 51, 52, 53, 54, 55, 66, 67, 68, 69, 70, 71, 72, 73, 74, 75, 76, 77, 78, 79, 80, 81, 82, 83, 84, 85, 86, 87, 88, 89, 90, 91, 92, 93, 94, 95, 96, 97, 98, 99, 100, 101, 102, 103] (by decide +kernel) (by decide +kernel)
set_option maxRecDepth 20000 in
theorem gX9_clash_X9_goSeason : GoodIn wsX9_clash (wsV RX9 211 RX9 yX9_goSeason wsX9_goSeason) := goodIn_app (goodIn_of _ (by decide +kernel)) ggX9_clash_X9_goSeason
set_option maxRecDepth 20000 in
theorem ggX9_clash_X9_forbiddenIn : GoodIn wsX9_clash wsX9_forbiddenIn := goodIn_r _ [59, 25, 60, 61, 62, 63, 64, 7, 65, 1, 38, 39, 40, 41, 15, 42, 43, 44, 45, 46, 47, 66, 67, 68, 69, 70, 71, 72, 73, 74, 75, 76, 77, 78, 79, 80, 81, 82, 83, 84, 85, 86, 87, 88, 89, 90, 91, 92, 93, 94, 95, 96, 97, 98, 99, 100, 101, 102, 103] (by decide +kernel) (by decide +kernel)
set_option maxRecDepth 20000 in
theorem gX9_clash_X9_forbiddenIn : GoodIn wsX9_clash (wsV RX9 221 RX9 yX9_forbiddenIn wsX9_forbiddenIn) := goodIn_app (goodIn_of _ (by decide +kernel)) ggX9_clash_X9_forbiddenIn
set_option maxRecDepth 20000 in
theorem ggX9_clash_X9_isIn : GoodIn wsX9_clash wsX9_isIn := goodIn_r _ [55] (by decide +kernel) (by decide +kernel)
set_option maxRecDepth 20000 in
theorem gX9_clash_X9_isIn : GoodIn wsX9_clash (va_wsS RX9 179 yX9_isIn wsX9_isIn) := goodIn_app (goodIn_of _ (by decide +kernel)) ggX9_clash_X9_isIn
theorem dX9_clash_0 : decode cX9_clash 0 = .ok (.iload_n 1, 1) := by decide +kernel
theorem dX9_clash_1 : decode cX9_clash 1 = .ok (.i2l, 1) := by decide +kernel
theorem dX9_clash_2 : decode cX9_clash 2 = .ok (.lconst 0, 1) := by decide +kernel
theorem dX9_clash_3 : decode cX9_clash 3 = .ok (.lconst 1, 1) := by decide +kernel
theorem dX9_clash_4 : decode cX9_clash 4 = .ok (.invokestatic 105, 3) := by decide +kernel
theorem dX9_clash_7 : decode cX9_clash 7 = .ok (.ifCond .ne 6, 3) := by decide +kernel
theorem dX9_clash_10 : decode cX9_clash 10 = .ok (.bipush (-2), 2) := by decide +kernel
theorem dX9_clash_12 : decode cX9_clash 12 = .ok (.ireturn, 1) := by decide +kernel
theorem dX9_clash_13 : decode cX9_clash 13 = .ok (.aload_n 0, 1) := by decide +kernel
theorem dX9_clash_14 : decode cX9_clash 14 = .ok (.getfield 102, 3) := by decide +kernel
theorem dX9_clash_17 : decode cX9_clash 17 = .ok (.ifCond .ne 6, 3) := by decide +kernel
theorem dX9_clash_20 : decode cX9_clash 20 = .ok (.bipush (-3), 2) := by decide +kernel
theorem dX9_clash_22 : decode cX9_clash 22 = .ok (.ireturn, 1) := by decide +kernel
theorem dX9_clash_23 : decode cX9_clash 23 = .ok (.aload_n 0, 1) := by decide +kernel
theorem dX9_clash_24 : decode cX9_clash 24 = .ok (.invokevirtual 208, 3) := by decide +kernel
theorem dX9_clash_27 : decode cX9_clash 27 = .ok (.iconst 0, 1) := by decide +kernel
theorem dX9_clash_28 : decode cX9_clash 28 = .ok (.istore_n 2, 1) := by decide +kernel
theorem dX9_clash_29 : decode cX9_clash 29 = .ok (.iload_n 2, 1) := by decide +kernel
theorem dX9_clash_30 : decode cX9_clash 30 = .ok (.bipush 40, 2) := by decide +kernel
theorem dX9_clash_32 : decode cX9_clash 32 = .ok (.if_icmp .ge 77, 3) := by decide +kernel
theorem dX9_clash_35 : decode cX9_clash 35 = .ok (.aload_n 0, 1) := by decide +kernel
theorem dX9_clash_36 : decode cX9_clash 36 = .ok (.iload_n 2, 1) := by decide +kernel
theorem dX9_clash_37 : decode cX9_clash 37 = .ok (.invokevirtual 211, 3) := by decide +kernel
theorem dX9_clash_40 : decode cX9_clash 40 = .ok (.aload_n 0, 1) := by decide +kernel
theorem dX9_clash_41 : decode cX9_clash 41 = .ok (.iload_n 2, 1) := by decide +kernel
theorem dX9_clash_42 : decode cX9_clash 42 = .ok (.invokevirtual 221, 3) := by decide +kernel
theorem dX9_clash_45 : decode cX9_clash 45 = .ok (.istore_n 3, 1) := by decide +kernel
theorem dX9_clash_46 : decode cX9_clash 46 = .ok (.iconst 0, 1) := by decide +kernel
theorem dX9_clash_47 : decode cX9_clash 47 = .ok (.istore 4, 2) := by decide +kernel
theorem dX9_clash_49 : decode cX9_clash 49 = .ok (.iload 4, 2) := by decide +kernel
theorem dX9_clash_51 : decode cX9_clash 51 = .ok (.aload_n 0, 1) := by decide +kernel
theorem dX9_clash_52 : decode cX9_clash 52 = .ok (.getfield 167, 3) := by decide +kernel
theorem dX9_clash_55 : decode cX9_clash 55 = .ok (.if_icmp .ge 48, 3) := by decide +kernel
theorem dX9_clash_58 : decode cX9_clash 58 = .ok (.iload_n 3, 1) := by decide +kernel
theorem dX9_clash_59 : decode cX9_clash 59 = .ok (.aload_n 0, 1) := by decide +kernel
theorem dX9_clash_60 : decode cX9_clash 60 = .ok (.getfield 62, 3) := by decide +kernel
theorem dX9_clash_63 : decode cX9_clash 63 = .ok (.iload 4, 2) := by decide +kernel
theorem dX9_clash_65 : decode cX9_clash 65 = .ok (.iaload, 1) := by decide +kernel
theorem dX9_clash_66 : decode cX9_clash 66 = .ok (.invokestatic 179, 3) := by decide +kernel
theorem dX9_clash_69 : decode cX9_clash 69 = .ok (.ifCond .eq 28, 3) := by decide +kernel
theorem dX9_clash_72 : decode cX9_clash 72 = .ok (.iload_n 3, 1) := by decide +kernel
theorem dX9_clash_73 : decode cX9_clash 73 = .ok (.aload_n 0, 1) := by decide +kernel
theorem dX9_clash_74 : decode cX9_clash 74 = .ok (.getfield 65, 3) := by decide +kernel
theorem dX9_clash_77 : decode cX9_clash 77 = .ok (.iload 4, 2) := by decide +kernel
theorem dX9_clash_79 : decode cX9_clash 79 = .ok (.iaload, 1) := by decide +kernel
theorem dX9_clash_80 : decode cX9_clash 80 = .ok (.invokestatic 179, 3) := by decide +kernel
theorem dX9_clash_83 : decode cX9_clash 83 = .ok (.ifCond .eq 14, 3) := by decide +kernel
theorem dX9_clash_86 : decode cX9_clash 86 = .ok (.iload_n 1, 1) := by decide +kernel
theorem dX9_clash_87 : decode cX9_clash 87 = .ok (.ifCond .ne 7, 3) := by decide +kernel
theorem dX9_clash_90 : decode cX9_clash 90 = .ok (.iload_n 2, 1) := by decide +kernel
theorem dX9_clash_91 : decode cX9_clash 91 = .ok (.goto 5, 3) := by decide +kernel
theorem dX9_clash_94 : decode cX9_clash 94 = .ok (.iload 4, 2) := by decide +kernel
theorem dX9_clash_96 : decode cX9_clash 96 = .ok (.ireturn, 1) := by decide +kernel
theorem dX9_clash_97 : decode cX9_clash 97 = .ok (.iinc 4 1, 3) := by decide +kernel
theorem dX9_clash_100 : decode cX9_clash 100 = .ok (.goto (-51), 3) := by decide +kernel
theorem dX9_clash_103 : decode cX9_clash 103 = .ok (.iinc 2 1, 3) := by decide +kernel
theorem dX9_clash_106 : decode cX9_clash 106 = .ok (.goto (-77), 3) := by decide +kernel
theorem dX9_clash_109 : decode cX9_clash 109 = .ok (.bipush (-9), 2) := by decide +kernel
theorem dX9_clash_111 : decode cX9_clash 111 = .ok (.ireturn, 1) := by decide +kernel
set_option maxRecDepth 20000 in
theorem ggX9_plan_X9_noSheet : GoodIn wsX9_plan wsX9_noSheet := goodIn_r _ [7, 8, 9, 10, 6, 11] (by decide +kernel) (by decide +kernel)
set_option maxRecDepth 20000 in
theorem gX9_plan_X9_noSheet : GoodIn wsX9_plan (va_wsS RX9 144 yX9_noSheet wsX9_noSheet) := goodIn_app (goodIn_of _ (by decide +kernel)) ggX9_plan_X9_noSheet
set_option maxRecDepth 20000 in
theorem ggX9_plan_X9_refused : GoodIn wsX9_plan wsX9_refused := goodIn_r _ [15, 16, 103, 104, 105, 106, 107, 108, 109, 110, 111, 112, 113, 114, 115, 116, 117, 118, 119, 120, 121, 122, 123, 124, 125, 126, 127, 128, 129, 130, 131, 132, 133, 134, 135, 136, 137, 138, 139, 140] (by decide +kernel) (by decide +kernel)
set_option maxRecDepth 20000 in
theorem gX9_plan_X9_refused : GoodIn wsX9_plan (wsV RX9 148 RX9 yX9_refused wsX9_refused) := goodIn_app (goodIn_of _ (by decide +kernel)) ggX9_plan_X9_refused
set_option maxRecDepth 20000 in
theorem ggX9_plan_X9_in : GoodIn wsX9_plan wsX9_in := goodIn_r _ [11] (by decide +kernel) (by decide +kernel)
set_option maxRecDepth 20000 in
theorem gX9_plan_X9_in : GoodIn wsX9_plan (va_wsS RX9 105 yX9_in wsX9_in) := goodIn_app (goodIn_of _ (by decide +kernel)) ggX9_plan_X9_in
set_option maxRecDepth 20000 in
theorem ggX9_plan_X9_isSeason : GoodIn wsX9_plan wsX9_isSeason := goodIn_r _ [19, 20, 9, 10, 6, 11] (by decide +kernel) (by decide +kernel)
set_option maxRecDepth 20000 in
theorem gX9_plan_X9_isSeason : GoodIn wsX9_plan (va_wsS RX9 185 yX9_isSeason wsX9_isSeason) := goodIn_app (goodIn_of _ (by decide +kernel)) ggX9_plan_X9_isSeason
set_option maxRecDepth 20000 in
theorem ggX9_plan_X9_cellsBarred : GoodIn wsX9_plan wsX9_cellsBarred := goodIn_r _ [24, 25, 26, 27, 28, 29, 6, 30, 16, 31, 32, 33, 103, 104, 105, 106, 107, 108, 109, 110, 111, 112, 113, 114, 115, 116, 117, 118, 119, 120, 121, 122, 123, 124, 125, 126, 127, 128, 129, 130, 131, 132, 133, 134, 135, 136, 137, 138, 139, 140] (by decide +kernel) (by decide +kernel)
set_option maxRecDepth 20000 in
theorem gX9_plan_X9_cellsBarred : GoodIn wsX9_plan (wsV RX9 151 RX9 yX9_cellsBarred wsX9_cellsBarred) := goodIn_app (goodIn_of _ (by decide +kernel)) ggX9_plan_X9_cellsBarred
set_option maxRecDepth 20000 in
theorem ggX9_plan_X9_noDeed : GoodIn wsX9_plan wsX9_noDeed := goodIn_r _ [36, 37, 9, 10, 6, 11] (by decide +kernel) (by decide +kernel)
set_option maxRecDepth 20000 in
theorem gX9_plan_X9_noDeed : GoodIn wsX9_plan (va_wsS RX9 182 yX9_noDeed wsX9_noDeed) := goodIn_app (goodIn_of _ (by decide +kernel)) ggX9_plan_X9_noDeed
set_option maxRecDepth 20000 in
theorem ggX9_plan_X9_isForbidden : GoodIn wsX9_plan wsX9_isForbidden := goodIn_r _ [41, 42, 43, 44, 6, 45, 46, 47, 48, 49, 2, 50, 51, 52, 53, 54, 55, 56, 57, 58, 59, 60, 61, 62, 63, 64, 65, 66, 67, 68, 69, 70, 71, 72, 73, 74, 75, 76, 77, 78, 79, 80, 81, 82, 83, 84, 85, 86, 87, 88, 89, 90, 91, 92, 93, 94, 95, 96, 97, 98, 99, 100, 101, 102, 103, 104, 105, 106, 107, 108, 109, 110, 111, 112, 113, 114, 115, 116, 117, 118, 119, 120, 121, 122, 123, 124, 125, 126, 127, 128, 129, 130, 131, 132, 133, 134, 135, 136, 137, 138, 139, 140] (by decide +kernel) (by decide +kernel)
set_option maxRecDepth 20000 in
theorem gX9_plan_X9_isForbidden : GoodIn wsX9_plan (wsV RX9 237 RX9 yX9_isForbidden wsX9_isForbidden) := goodIn_app (goodIn_of _ (by decide +kernel)) ggX9_plan_X9_isForbidden
theorem dX9_plan_0 : decode cX9_plan 0 = .ok (.iload_n 2, 1) := by decide +kernel
theorem dX9_plan_1 : decode cX9_plan 1 = .ok (.invokestatic 144, 3) := by decide +kernel
theorem dX9_plan_4 : decode cX9_plan 4 = .ok (.ifCond .eq 9, 3) := by decide +kernel
theorem dX9_plan_7 : decode cX9_plan 7 = .ok (.aload_n 0, 1) := by decide +kernel
theorem dX9_plan_8 : decode cX9_plan 8 = .ok (.iconst (-1), 1) := by decide +kernel
theorem dX9_plan_9 : decode cX9_plan 9 = .ok (.invokevirtual 148, 3) := by decide +kernel
theorem dX9_plan_12 : decode cX9_plan 12 = .ok (.ireturn, 1) := by decide +kernel
theorem dX9_plan_13 : decode cX9_plan 13 = .ok (.iload_n 3, 1) := by decide +kernel
theorem dX9_plan_14 : decode cX9_plan 14 = .ok (.i2l, 1) := by decide +kernel
theorem dX9_plan_15 : decode cX9_plan 15 = .ok (.lconst 0, 1) := by decide +kernel
theorem dX9_plan_16 : decode cX9_plan 16 = .ok (.ldc2_w 114, 3) := by decide +kernel
theorem dX9_plan_19 : decode cX9_plan 19 = .ok (.invokestatic 105, 3) := by decide +kernel
theorem dX9_plan_22 : decode cX9_plan 22 = .ok (.ifCond .eq 10, 3) := by decide +kernel
theorem dX9_plan_25 : decode cX9_plan 25 = .ok (.iload_n 1, 1) := by decide +kernel
theorem dX9_plan_26 : decode cX9_plan 26 = .ok (.invokestatic 185, 3) := by decide +kernel
theorem dX9_plan_29 : decode cX9_plan 29 = .ok (.ifCond .ne 10, 3) := by decide +kernel
theorem dX9_plan_32 : decode cX9_plan 32 = .ok (.aload_n 0, 1) := by decide +kernel
theorem dX9_plan_33 : decode cX9_plan 33 = .ok (.bipush (-2), 2) := by decide +kernel
theorem dX9_plan_35 : decode cX9_plan 35 = .ok (.invokevirtual 148, 3) := by decide +kernel
theorem dX9_plan_38 : decode cX9_plan 38 = .ok (.ireturn, 1) := by decide +kernel
theorem dX9_plan_39 : decode cX9_plan 39 = .ok (.aload_n 0, 1) := by decide +kernel
theorem dX9_plan_40 : decode cX9_plan 40 = .ok (.getfield 102, 3) := by decide +kernel
theorem dX9_plan_43 : decode cX9_plan 43 = .ok (.ifCond .ne 10, 3) := by decide +kernel
theorem dX9_plan_46 : decode cX9_plan 46 = .ok (.aload_n 0, 1) := by decide +kernel
theorem dX9_plan_47 : decode cX9_plan 47 = .ok (.bipush (-3), 2) := by decide +kernel
theorem dX9_plan_49 : decode cX9_plan 49 = .ok (.invokevirtual 148, 3) := by decide +kernel
theorem dX9_plan_52 : decode cX9_plan 52 = .ok (.ireturn, 1) := by decide +kernel
theorem dX9_plan_53 : decode cX9_plan 53 = .ok (.aload_n 0, 1) := by decide +kernel
theorem dX9_plan_54 : decode cX9_plan 54 = .ok (.iload_n 2, 1) := by decide +kernel
theorem dX9_plan_55 : decode cX9_plan 55 = .ok (.iload_n 3, 1) := by decide +kernel
theorem dX9_plan_56 : decode cX9_plan 56 = .ok (.iload 4, 2) := by decide +kernel
theorem dX9_plan_58 : decode cX9_plan 58 = .ok (.iload 5, 2) := by decide +kernel
theorem dX9_plan_60 : decode cX9_plan 60 = .ok (.i2l, 1) := by decide +kernel
theorem dX9_plan_61 : decode cX9_plan 61 = .ok (.invokevirtual 151, 3) := by decide +kernel
theorem dX9_plan_64 : decode cX9_plan 64 = .ok (.istore 6, 2) := by decide +kernel
theorem dX9_plan_66 : decode cX9_plan 66 = .ok (.iload 6, 2) := by decide +kernel
theorem dX9_plan_68 : decode cX9_plan 68 = .ok (.ifCond .ge 6, 3) := by decide +kernel
theorem dX9_plan_71 : decode cX9_plan 71 = .ok (.iload 6, 2) := by decide +kernel
theorem dX9_plan_73 : decode cX9_plan 73 = .ok (.ireturn, 1) := by decide +kernel
theorem dX9_plan_74 : decode cX9_plan 74 = .ok (.iload_n 1, 1) := by decide +kernel
theorem dX9_plan_75 : decode cX9_plan 75 = .ok (.iload 5, 2) := by decide +kernel
theorem dX9_plan_77 : decode cX9_plan 77 = .ok (.iadd, 1) := by decide +kernel
theorem dX9_plan_78 : decode cX9_plan 78 = .ok (.bipush 40, 2) := by decide +kernel
theorem dX9_plan_80 : decode cX9_plan 80 = .ok (.if_icmp .le 10, 3) := by decide +kernel
theorem dX9_plan_83 : decode cX9_plan 83 = .ok (.aload_n 0, 1) := by decide +kernel
theorem dX9_plan_84 : decode cX9_plan 84 = .ok (.bipush (-2), 2) := by decide +kernel
theorem dX9_plan_86 : decode cX9_plan 86 = .ok (.invokevirtual 148, 3) := by decide +kernel
theorem dX9_plan_89 : decode cX9_plan 89 = .ok (.ireturn, 1) := by decide +kernel
theorem dX9_plan_90 : decode cX9_plan 90 = .ok (.iconst 0, 1) := by decide +kernel
theorem dX9_plan_91 : decode cX9_plan 91 = .ok (.istore 7, 2) := by decide +kernel
theorem dX9_plan_93 : decode cX9_plan 93 = .ok (.iload 7, 2) := by decide +kernel
theorem dX9_plan_95 : decode cX9_plan 95 = .ok (.iload 5, 2) := by decide +kernel
theorem dX9_plan_97 : decode cX9_plan 97 = .ok (.if_icmp .ge 36, 3) := by decide +kernel
theorem dX9_plan_100 : decode cX9_plan 100 = .ok (.aload_n 0, 1) := by decide +kernel
theorem dX9_plan_101 : decode cX9_plan 101 = .ok (.getfield 86, 3) := by decide +kernel
theorem dX9_plan_104 : decode cX9_plan 104 = .ok (.bipush 60, 2) := by decide +kernel
theorem dX9_plan_106 : decode cX9_plan 106 = .ok (.iload_n 2, 1) := by decide +kernel
theorem dX9_plan_107 : decode cX9_plan 107 = .ok (.imul, 1) := by decide +kernel
theorem dX9_plan_108 : decode cX9_plan 108 = .ok (.iload 4, 2) := by decide +kernel
theorem dX9_plan_110 : decode cX9_plan 110 = .ok (.iadd, 1) := by decide +kernel
theorem dX9_plan_111 : decode cX9_plan 111 = .ok (.iload 7, 2) := by decide +kernel
theorem dX9_plan_113 : decode cX9_plan 113 = .ok (.iadd, 1) := by decide +kernel
theorem dX9_plan_114 : decode cX9_plan 114 = .ok (.iaload, 1) := by decide +kernel
theorem dX9_plan_115 : decode cX9_plan 115 = .ok (.invokestatic 182, 3) := by decide +kernel
theorem dX9_plan_118 : decode cX9_plan 118 = .ok (.ifCond .eq 9, 3) := by decide +kernel
theorem dX9_plan_121 : decode cX9_plan 121 = .ok (.aload_n 0, 1) := by decide +kernel
theorem dX9_plan_122 : decode cX9_plan 122 = .ok (.iconst (-1), 1) := by decide +kernel
theorem dX9_plan_123 : decode cX9_plan 123 = .ok (.invokevirtual 148, 3) := by decide +kernel
theorem dX9_plan_126 : decode cX9_plan 126 = .ok (.ireturn, 1) := by decide +kernel
theorem dX9_plan_127 : decode cX9_plan 127 = .ok (.iinc 7 1, 3) := by decide +kernel
theorem dX9_plan_130 : decode cX9_plan 130 = .ok (.goto (-37), 3) := by decide +kernel
theorem dX9_plan_133 : decode cX9_plan 133 = .ok (.iconst 0, 1) := by decide +kernel
theorem dX9_plan_134 : decode cX9_plan 134 = .ok (.istore 7, 2) := by decide +kernel
theorem dX9_plan_136 : decode cX9_plan 136 = .ok (.iload 7, 2) := by decide +kernel
theorem dX9_plan_138 : decode cX9_plan 138 = .ok (.iload 5, 2) := by decide +kernel
theorem dX9_plan_140 : decode cX9_plan 140 = .ok (.if_icmp .ge 42, 3) := by decide +kernel
theorem dX9_plan_143 : decode cX9_plan 143 = .ok (.aload_n 0, 1) := by decide +kernel
theorem dX9_plan_144 : decode cX9_plan 144 = .ok (.aload_n 0, 1) := by decide +kernel
theorem dX9_plan_145 : decode cX9_plan 145 = .ok (.getfield 86, 3) := by decide +kernel
theorem dX9_plan_148 : decode cX9_plan 148 = .ok (.bipush 60, 2) := by decide +kernel
theorem dX9_plan_150 : decode cX9_plan 150 = .ok (.iload_n 2, 1) := by decide +kernel
theorem dX9_plan_151 : decode cX9_plan 151 = .ok (.imul, 1) := by decide +kernel
theorem dX9_plan_152 : decode cX9_plan 152 = .ok (.iload 4, 2) := by decide +kernel
theorem dX9_plan_154 : decode cX9_plan 154 = .ok (.iadd, 1) := by decide +kernel
theorem dX9_plan_155 : decode cX9_plan 155 = .ok (.iload 7, 2) := by decide +kernel
theorem dX9_plan_157 : decode cX9_plan 157 = .ok (.iadd, 1) := by decide +kernel
theorem dX9_plan_158 : decode cX9_plan 158 = .ok (.iaload, 1) := by decide +kernel
theorem dX9_plan_159 : decode cX9_plan 159 = .ok (.iload_n 1, 1) := by decide +kernel
theorem dX9_plan_160 : decode cX9_plan 160 = .ok (.iload 7, 2) := by decide +kernel
theorem dX9_plan_162 : decode cX9_plan 162 = .ok (.iadd, 1) := by decide +kernel
theorem dX9_plan_163 : decode cX9_plan 163 = .ok (.invokevirtual 237, 3) := by decide +kernel
theorem dX9_plan_166 : decode cX9_plan 166 = .ok (.ifCond .eq 10, 3) := by decide +kernel
theorem dX9_plan_169 : decode cX9_plan 169 = .ok (.aload_n 0, 1) := by decide +kernel
theorem dX9_plan_170 : decode cX9_plan 170 = .ok (.iload 7, 2) := by decide +kernel
theorem dX9_plan_172 : decode cX9_plan 172 = .ok (.invokevirtual 148, 3) := by decide +kernel
theorem dX9_plan_175 : decode cX9_plan 175 = .ok (.ireturn, 1) := by decide +kernel
theorem dX9_plan_176 : decode cX9_plan 176 = .ok (.iinc 7 1, 3) := by decide +kernel
theorem dX9_plan_179 : decode cX9_plan 179 = .ok (.goto (-43), 3) := by decide +kernel
theorem dX9_plan_182 : decode cX9_plan 182 = .ok (.aload_n 0, 1) := by decide +kernel
theorem dX9_plan_183 : decode cX9_plan 183 = .ok (.bipush (-9), 2) := by decide +kernel
theorem dX9_plan_185 : decode cX9_plan 185 = .ok (.invokevirtual 148, 3) := by decide +kernel
theorem dX9_plan_188 : decode cX9_plan 188 = .ok (.ireturn, 1) := by decide +kernel
set_option maxRecDepth 20000 in
theorem ggX9_reading_X9_noPerson : GoodIn wsX9_reading wsX9_noPerson := goodIn_r _ [10, 11, 12, 13, 9, 14, 24, 25, 26, 27, 28, 29, 30, 31, 32, 33, 34, 35, 36, 37, 38, 39, 40, 41, 42, 43, 44, 45, 46, 47, 48, 49, 50, 51, 52, 53, 54, 55, 56, 57, 58, 59, 60, 61] (by decide +kernel) (by decide +kernel)
set_option maxRecDepth 20000 in
theorem gX9_reading_X9_noPerson : GoodIn wsX9_reading (wsV RX9 173 RX9 yX9_noPerson wsX9_noPerson) := goodIn_app (goodIn_of _ (by decide +kernel)) ggX9_reading_X9_noPerson
set_option maxRecDepth 20000 in
theorem ggX9_reading_X9_noTale : GoodIn wsX9_reading wsX9_noTale := goodIn_r _ [18, 19, 12, 13, 9, 14, 24, 25, 26, 27, 28, 29, 30, 31, 32, 33, 34, 35, 36, 37, 38, 39, 40, 41, 42, 43, 44, 45, 46, 47, 48, 49, 50, 51, 52, 53, 54, 55, 56, 57, 58, 59, 60, 61] (by decide +kernel) (by decide +kernel)
set_option maxRecDepth 20000 in
theorem gX9_reading_X9_noTale : GoodIn wsX9_reading (wsV RX9 188 RX9 yX9_noTale wsX9_noTale) := goodIn_app (goodIn_of _ (by decide +kernel)) ggX9_reading_X9_noTale
set_option maxRecDepth 20000 in
theorem ggX9_reading_X9_isSeason : GoodIn wsX9_reading wsX9_isSeason := goodIn_r _ [22, 23, 12, 13, 9, 14] (by decide +kernel) (by decide +kernel)
set_option maxRecDepth 20000 in
theorem gX9_reading_X9_isSeason : GoodIn wsX9_reading (va_wsS RX9 185 yX9_isSeason wsX9_isSeason) := goodIn_app (goodIn_of _ (by decide +kernel)) ggX9_reading_X9_isSeason
theorem dX9_reading_0 : decode cX9_reading 0 = .ok (.aload_n 0, 1) := by decide +kernel
theorem dX9_reading_1 : decode cX9_reading 1 = .ok (.iload_n 1, 1) := by decide +kernel
theorem dX9_reading_2 : decode cX9_reading 2 = .ok (.invokevirtual 173, 3) := by decide +kernel
theorem dX9_reading_5 : decode cX9_reading 5 = .ok (.ifCond .ne 11, 3) := by decide +kernel
theorem dX9_reading_8 : decode cX9_reading 8 = .ok (.aload_n 0, 1) := by decide +kernel
theorem dX9_reading_9 : decode cX9_reading 9 = .ok (.iload_n 2, 1) := by decide +kernel
theorem dX9_reading_10 : decode cX9_reading 10 = .ok (.invokevirtual 188, 3) := by decide +kernel
theorem dX9_reading_13 : decode cX9_reading 13 = .ok (.ifCond .eq 5, 3) := by decide +kernel
theorem dX9_reading_16 : decode cX9_reading 16 = .ok (.iconst (-1), 1) := by decide +kernel
theorem dX9_reading_17 : decode cX9_reading 17 = .ok (.ireturn, 1) := by decide +kernel
theorem dX9_reading_18 : decode cX9_reading 18 = .ok (.iload_n 3, 1) := by decide +kernel
theorem dX9_reading_19 : decode cX9_reading 19 = .ok (.invokestatic 185, 3) := by decide +kernel
theorem dX9_reading_22 : decode cX9_reading 22 = .ok (.ifCond .ne 6, 3) := by decide +kernel
theorem dX9_reading_25 : decode cX9_reading 25 = .ok (.bipush (-2), 2) := by decide +kernel
theorem dX9_reading_27 : decode cX9_reading 27 = .ok (.ireturn, 1) := by decide +kernel
theorem dX9_reading_28 : decode cX9_reading 28 = .ok (.aload_n 0, 1) := by decide +kernel
theorem dX9_reading_29 : decode cX9_reading 29 = .ok (.getfield 170, 3) := by decide +kernel
theorem dX9_reading_32 : decode cX9_reading 32 = .ok (.bipush 8, 2) := by decide +kernel
theorem dX9_reading_34 : decode cX9_reading 34 = .ok (.if_icmp .ne 6, 3) := by decide +kernel
theorem dX9_reading_37 : decode cX9_reading 37 = .ok (.bipush (-4), 2) := by decide +kernel
theorem dX9_reading_39 : decode cX9_reading 39 = .ok (.ireturn, 1) := by decide +kernel
theorem dX9_reading_40 : decode cX9_reading 40 = .ok (.aload_n 0, 1) := by decide +kernel
theorem dX9_reading_41 : decode cX9_reading 41 = .ok (.getfield 68, 3) := by decide +kernel
theorem dX9_reading_44 : decode cX9_reading 44 = .ok (.aload_n 0, 1) := by decide +kernel
theorem dX9_reading_45 : decode cX9_reading 45 = .ok (.getfield 170, 3) := by decide +kernel
theorem dX9_reading_48 : decode cX9_reading 48 = .ok (.iload_n 1, 1) := by decide +kernel
theorem dX9_reading_49 : decode cX9_reading 49 = .ok (.iastore, 1) := by decide +kernel
theorem dX9_reading_50 : decode cX9_reading 50 = .ok (.aload_n 0, 1) := by decide +kernel
theorem dX9_reading_51 : decode cX9_reading 51 = .ok (.getfield 71, 3) := by decide +kernel
theorem dX9_reading_54 : decode cX9_reading 54 = .ok (.aload_n 0, 1) := by decide +kernel
theorem dX9_reading_55 : decode cX9_reading 55 = .ok (.getfield 170, 3) := by decide +kernel
theorem dX9_reading_58 : decode cX9_reading 58 = .ok (.iload_n 2, 1) := by decide +kernel
theorem dX9_reading_59 : decode cX9_reading 59 = .ok (.iastore, 1) := by decide +kernel
theorem dX9_reading_60 : decode cX9_reading 60 = .ok (.aload_n 0, 1) := by decide +kernel
theorem dX9_reading_61 : decode cX9_reading 61 = .ok (.getfield 74, 3) := by decide +kernel
theorem dX9_reading_64 : decode cX9_reading 64 = .ok (.aload_n 0, 1) := by decide +kernel
theorem dX9_reading_65 : decode cX9_reading 65 = .ok (.getfield 170, 3) := by decide +kernel
theorem dX9_reading_68 : decode cX9_reading 68 = .ok (.iload_n 3, 1) := by decide +kernel
theorem dX9_reading_69 : decode cX9_reading 69 = .ok (.iastore, 1) := by decide +kernel
theorem dX9_reading_70 : decode cX9_reading 70 = .ok (.aload_n 0, 1) := by decide +kernel
theorem dX9_reading_71 : decode cX9_reading 71 = .ok (.getfield 77, 3) := by decide +kernel
theorem dX9_reading_74 : decode cX9_reading 74 = .ok (.aload_n 0, 1) := by decide +kernel
theorem dX9_reading_75 : decode cX9_reading 75 = .ok (.getfield 170, 3) := by decide +kernel
theorem dX9_reading_78 : decode cX9_reading 78 = .ok (.iload 4, 2) := by decide +kernel
theorem dX9_reading_80 : decode cX9_reading 80 = .ok (.bastore, 1) := by decide +kernel
theorem dX9_reading_81 : decode cX9_reading 81 = .ok (.aload_n 0, 1) := by decide +kernel
theorem dX9_reading_82 : decode cX9_reading 82 = .ok (.dup, 1) := by decide +kernel
theorem dX9_reading_83 : decode cX9_reading 83 = .ok (.getfield 170, 3) := by decide +kernel
theorem dX9_reading_86 : decode cX9_reading 86 = .ok (.iconst 1, 1) := by decide +kernel
theorem dX9_reading_87 : decode cX9_reading 87 = .ok (.iadd, 1) := by decide +kernel
theorem dX9_reading_88 : decode cX9_reading 88 = .ok (.putfield 170, 3) := by decide +kernel
theorem dX9_reading_91 : decode cX9_reading 91 = .ok (.aload_n 0, 1) := by decide +kernel
theorem dX9_reading_92 : decode cX9_reading 92 = .ok (.getfield 170, 3) := by decide +kernel
theorem dX9_reading_95 : decode cX9_reading 95 = .ok (.iconst 1, 1) := by decide +kernel
theorem dX9_reading_96 : decode cX9_reading 96 = .ok (.isub, 1) := by decide +kernel
theorem dX9_reading_97 : decode cX9_reading 97 = .ok (.ireturn, 1) := by decide +kernel
set_option maxRecDepth 20000 in
theorem ggX9_back_X9_in : GoodIn wsX9_back wsX9_in := goodIn_r _ [5] (by decide +kernel) (by decide +kernel)
set_option maxRecDepth 20000 in
theorem gX9_back_X9_in : GoodIn wsX9_back (va_wsS RX9 105 yX9_in wsX9_in) := goodIn_app (goodIn_of _ (by decide +kernel)) ggX9_back_X9_in
theorem dX9_back_0 : decode cX9_back 0 = .ok (.iload_n 1, 1) := by decide +kernel
theorem dX9_back_1 : decode cX9_back 1 = .ok (.i2l, 1) := by decide +kernel
theorem dX9_back_2 : decode cX9_back 2 = .ok (.lconst 0, 1) := by decide +kernel
theorem dX9_back_3 : decode cX9_back 3 = .ok (.aload_n 0, 1) := by decide +kernel
theorem dX9_back_4 : decode cX9_back 4 = .ok (.getfield 170, 3) := by decide +kernel
theorem dX9_back_7 : decode cX9_back 7 = .ok (.i2l, 1) := by decide +kernel
theorem dX9_back_8 : decode cX9_back 8 = .ok (.invokestatic 105, 3) := by decide +kernel
theorem dX9_back_11 : decode cX9_back 11 = .ok (.ifCond .ne 6, 3) := by decide +kernel
theorem dX9_back_14 : decode cX9_back 14 = .ok (.bipush (-2), 2) := by decide +kernel
theorem dX9_back_16 : decode cX9_back 16 = .ok (.ireturn, 1) := by decide +kernel
theorem dX9_back_17 : decode cX9_back 17 = .ok (.aload_n 0, 1) := by decide +kernel
theorem dX9_back_18 : decode cX9_back 18 = .ok (.dup, 1) := by decide +kernel
theorem dX9_back_19 : decode cX9_back 19 = .ok (.getfield 170, 3) := by decide +kernel
theorem dX9_back_22 : decode cX9_back 22 = .ok (.iload_n 1, 1) := by decide +kernel
theorem dX9_back_23 : decode cX9_back 23 = .ok (.isub, 1) := by decide +kernel
theorem dX9_back_24 : decode cX9_back 24 = .ok (.putfield 170, 3) := by decide +kernel
theorem dX9_back_27 : decode cX9_back 27 = .ok (.aload_n 0, 1) := by decide +kernel
theorem dX9_back_28 : decode cX9_back 28 = .ok (.getfield 170, 3) := by decide +kernel
theorem dX9_back_31 : decode cX9_back 31 = .ok (.ireturn, 1) := by decide +kernel
set_option maxRecDepth 20000 in
theorem ggX9_areSo_X9_begin : GoodIn wsX9_areSo wsX9_begin := goodIn_r _ [10, 11, 12, 13, 14, 15, 55, 56, 57, 58, 59, 60, 61, 62, 63, 64, 65, 66, 67, 68, 69, 70, 71, 72, 73, 74, 75, 76, 77, 78, 79, 80, 81, 82, 83, 84, 85, 86, 87, 88, 89, 90, 91, 92] (by decide +kernel) (by decide +kernel)
set_option maxRecDepth 20000 in
theorem gX9_areSo_X9_begin : GoodIn wsX9_areSo (wsV RX9 208 RX9 yX9_begin wsX9_begin) := goodIn_app (goodIn_of _ (by decide +kernel)) ggX9_areSo_X9_begin
set_option maxRecDepth 20000 in
theorem ggX9_areSo_X9_goSeason : GoodIn wsX9_areSo wsX9_goSeason := goodIn_r _ [19, 20, 12, 21, 22, 23, 24, 25, 14, 26, 27, 28, 29, 9, 30, 31, 15, 11, 32, 33, 34, 35, 36, 37, 38, 39, 40, 41, 42, 43, 44, 45, 46, 47, 48, 49, 50, 51, 52, 53, 54, 55, 56, 57, 58, 59, 60, 61, 62, 63, 64, 65, 66, 67, 68, 69, 70, 71, 72, 73, 74, 75, 76, 77, 78, 79, 80, 81, 82, 83, 84, 85, 86, 87, 88, 89, 90, 91, 92] (by decide +kernel) (by decide +kernel)
set_option maxRecDepth 20000 in
theorem gX9_areSo_X9_goSeason : GoodIn wsX9_areSo (wsV RX9 211 RX9 yX9_goSeason wsX9_goSeason) := goodIn_app (goodIn_of _ (by decide +kernel)) ggX9_areSo_X9_goSeason
set_option maxRecDepth 20000 in
theorem ggX9_areSo_X9_doesRemember : GoodIn wsX9_areSo wsX9_doesRemember := goodIn_r _ [40, 14, 41, 42, 43, 9, 44, 45, 46, 55, 56, 57, 58, 59, 60, 61, 62, 63, 64, 65, 66, 67, 68, 69, 70, 71, 72, 73, 74, 75, 76, 77, 78, 79, 80, 81, 82, 83, 84, 85, 86, 87, 88, 89, 90, 91, 92] (by decide +kernel) (by decide +kernel)
set_option maxRecDepth 20000 in
theorem gX9_areSo_X9_doesRemember : GoodIn wsX9_areSo (wsV RX9 194 RX9 yX9_doesRemember wsX9_doesRemember) := goodIn_app (goodIn_of _ (by decide +kernel)) ggX9_areSo_X9_doesRemember
theorem dX9_areSo_0 : decode cX9_areSo 0 = .ok (.iconst 1, 1) := by decide +kernel
theorem dX9_areSo_1 : decode cX9_areSo 1 = .ok (.istore_n 1, 1) := by decide +kernel
theorem dX9_areSo_2 : decode cX9_areSo 2 = .ok (.aload_n 0, 1) := by decide +kernel
theorem dX9_areSo_3 : decode cX9_areSo 3 = .ok (.invokevirtual 208, 3) := by decide +kernel
theorem dX9_areSo_6 : decode cX9_areSo 6 = .ok (.iconst 0, 1) := by decide +kernel
theorem dX9_areSo_7 : decode cX9_areSo 7 = .ok (.istore_n 2, 1) := by decide +kernel
theorem dX9_areSo_8 : decode cX9_areSo 8 = .ok (.iload_n 2, 1) := by decide +kernel
theorem dX9_areSo_9 : decode cX9_areSo 9 = .ok (.bipush 40, 2) := by decide +kernel
theorem dX9_areSo_11 : decode cX9_areSo 11 = .ok (.if_icmp .ge 80, 3) := by decide +kernel
theorem dX9_areSo_14 : decode cX9_areSo 14 = .ok (.iload_n 1, 1) := by decide +kernel
theorem dX9_areSo_15 : decode cX9_areSo 15 = .ok (.ifCond .eq 76, 3) := by decide +kernel
theorem dX9_areSo_18 : decode cX9_areSo 18 = .ok (.aload_n 0, 1) := by decide +kernel
theorem dX9_areSo_19 : decode cX9_areSo 19 = .ok (.iload_n 2, 1) := by decide +kernel
theorem dX9_areSo_20 : decode cX9_areSo 20 = .ok (.invokevirtual 211, 3) := by decide +kernel
theorem dX9_areSo_23 : decode cX9_areSo 23 = .ok (.iconst 0, 1) := by decide +kernel
theorem dX9_areSo_24 : decode cX9_areSo 24 = .ok (.istore_n 3, 1) := by decide +kernel
theorem dX9_areSo_25 : decode cX9_areSo 25 = .ok (.iload_n 3, 1) := by decide +kernel
theorem dX9_areSo_26 : decode cX9_areSo 26 = .ok (.aload_n 0, 1) := by decide +kernel
theorem dX9_areSo_27 : decode cX9_areSo 27 = .ok (.getfield 170, 3) := by decide +kernel
theorem dX9_areSo_30 : decode cX9_areSo 30 = .ok (.if_icmp .ge 55, 3) := by decide +kernel
theorem dX9_areSo_33 : decode cX9_areSo 33 = .ok (.iload_n 1, 1) := by decide +kernel
theorem dX9_areSo_34 : decode cX9_areSo 34 = .ok (.ifCond .eq 43, 3) := by decide +kernel
theorem dX9_areSo_37 : decode cX9_areSo 37 = .ok (.aload_n 0, 1) := by decide +kernel
theorem dX9_areSo_38 : decode cX9_areSo 38 = .ok (.getfield 74, 3) := by decide +kernel
theorem dX9_areSo_41 : decode cX9_areSo 41 = .ok (.iload_n 3, 1) := by decide +kernel
theorem dX9_areSo_42 : decode cX9_areSo 42 = .ok (.iaload, 1) := by decide +kernel
theorem dX9_areSo_43 : decode cX9_areSo 43 = .ok (.iload_n 2, 1) := by decide +kernel
theorem dX9_areSo_44 : decode cX9_areSo 44 = .ok (.if_icmp .ne 29, 3) := by decide +kernel
theorem dX9_areSo_47 : decode cX9_areSo 47 = .ok (.aload_n 0, 1) := by decide +kernel
theorem dX9_areSo_48 : decode cX9_areSo 48 = .ok (.aload_n 0, 1) := by decide +kernel
theorem dX9_areSo_49 : decode cX9_areSo 49 = .ok (.getfield 68, 3) := by decide +kernel
theorem dX9_areSo_52 : decode cX9_areSo 52 = .ok (.iload_n 3, 1) := by decide +kernel
theorem dX9_areSo_53 : decode cX9_areSo 53 = .ok (.iaload, 1) := by decide +kernel
theorem dX9_areSo_54 : decode cX9_areSo 54 = .ok (.aload_n 0, 1) := by decide +kernel
theorem dX9_areSo_55 : decode cX9_areSo 55 = .ok (.getfield 71, 3) := by decide +kernel
theorem dX9_areSo_58 : decode cX9_areSo 58 = .ok (.iload_n 3, 1) := by decide +kernel
theorem dX9_areSo_59 : decode cX9_areSo 59 = .ok (.iaload, 1) := by decide +kernel
theorem dX9_areSo_60 : decode cX9_areSo 60 = .ok (.iload_n 2, 1) := by decide +kernel
theorem dX9_areSo_61 : decode cX9_areSo 61 = .ok (.invokevirtual 194, 3) := by decide +kernel
theorem dX9_areSo_64 : decode cX9_areSo 64 = .ok (.aload_n 0, 1) := by decide +kernel
theorem dX9_areSo_65 : decode cX9_areSo 65 = .ok (.getfield 77, 3) := by decide +kernel
theorem dX9_areSo_68 : decode cX9_areSo 68 = .ok (.iload_n 3, 1) := by decide +kernel
theorem dX9_areSo_69 : decode cX9_areSo 69 = .ok (.baload, 1) := by decide +kernel
theorem dX9_areSo_70 : decode cX9_areSo 70 = .ok (.if_icmp .ne 7, 3) := by decide +kernel
theorem dX9_areSo_73 : decode cX9_areSo 73 = .ok (.iconst 1, 1) := by decide +kernel
theorem dX9_areSo_74 : decode cX9_areSo 74 = .ok (.goto 4, 3) := by decide +kernel
theorem dX9_areSo_77 : decode cX9_areSo 77 = .ok (.iconst 0, 1) := by decide +kernel
theorem dX9_areSo_78 : decode cX9_areSo 78 = .ok (.istore_n 1, 1) := by decide +kernel
theorem dX9_areSo_79 : decode cX9_areSo 79 = .ok (.iinc 3 1, 3) := by decide +kernel
theorem dX9_areSo_82 : decode cX9_areSo 82 = .ok (.goto (-57), 3) := by decide +kernel
theorem dX9_areSo_85 : decode cX9_areSo 85 = .ok (.iinc 2 1, 3) := by decide +kernel
theorem dX9_areSo_88 : decode cX9_areSo 88 = .ok (.goto (-80), 3) := by decide +kernel
theorem dX9_areSo_91 : decode cX9_areSo 91 = .ok (.iload_n 1, 1) := by decide +kernel
theorem dX9_areSo_92 : decode cX9_areSo 92 = .ok (.ireturn, 1) := by decide +kernel
set_option maxRecDepth 20000 in
theorem ggX9_comes_X9_noTale : GoodIn wsX9_comes wsX9_noTale := goodIn_r _ [7, 8, 9, 10, 6, 11, 66, 67, 68, 69, 70, 71, 72, 73, 74, 75, 76, 77, 78, 79, 80, 81, 82, 83, 84, 85, 86, 87, 88, 89, 90, 91, 92, 93, 94, 95, 96, 97, 98, 99, 100, 101, 102, 103] (by decide +kernel) (by decide +kernel)
set_option maxRecDepth 20000 in
theorem gX9_comes_X9_noTale : GoodIn wsX9_comes (wsV RX9 188 RX9 yX9_noTale wsX9_noTale) := goodIn_app (goodIn_of _ (by decide +kernel)) ggX9_comes_X9_noTale
set_option maxRecDepth 20000 in
theorem ggX9_comes_X9_areSo : GoodIn wsX9_comes wsX9_areSo := goodIn_r _ [15, 16, 17, 18, 19, 20, 21, 22, 23, 6, 24, 2, 25, 26, 27, 28, 29, 30, 31, 32, 33, 34, 35, 36, 8, 1, 37, 38, 39, 40, 41, 42, 43, 44, 45, 46, 47, 48, 49, 50, 51, 52, 53, 54, 55, 56, 57, 58, 59, 60, 61, 62, 63, 64, 65, 66, 67, 68, 69, 70, 71, 72, 73, 74, 75, 76, 77, 78, 79, 80, 81, 82, 83, 84, 85, 86, 87, 88, 89, 90, 91, 92, 93, 94, 95, 96, 97, 98, 99, 100, 101, 102, 103] (by decide +kernel) (by decide +kernel)
set_option maxRecDepth 20000 in
theorem gX9_comes_X9_areSo : GoodIn wsX9_comes (wsV RX9 240 RX9 yX9_areSo wsX9_areSo) := goodIn_app (goodIn_of _ (by decide +kernel)) ggX9_comes_X9_areSo
theorem dX9_comes_0 : decode cX9_comes 0 = .ok (.aload_n 0, 1) := by decide +kernel
theorem dX9_comes_1 : decode cX9_comes 1 = .ok (.iload_n 1, 1) := by decide +kernel
theorem dX9_comes_2 : decode cX9_comes 2 = .ok (.invokevirtual 188, 3) := by decide +kernel
theorem dX9_comes_5 : decode cX9_comes 5 = .ok (.ifCond .eq 5, 3) := by decide +kernel
theorem dX9_comes_8 : decode cX9_comes 8 = .ok (.iconst (-1), 1) := by decide +kernel
theorem dX9_comes_9 : decode cX9_comes 9 = .ok (.ireturn, 1) := by decide +kernel
theorem dX9_comes_10 : decode cX9_comes 10 = .ok (.aload_n 0, 1) := by decide +kernel
theorem dX9_comes_11 : decode cX9_comes 11 = .ok (.getfield 31, 3) := by decide +kernel
theorem dX9_comes_14 : decode cX9_comes 14 = .ok (.iload_n 1, 1) := by decide +kernel
theorem dX9_comes_15 : decode cX9_comes 15 = .ok (.iaload, 1) := by decide +kernel
theorem dX9_comes_16 : decode cX9_comes 16 = .ok (.istore_n 2, 1) := by decide +kernel
theorem dX9_comes_17 : decode cX9_comes 17 = .ok (.iconst 0, 1) := by decide +kernel
theorem dX9_comes_18 : decode cX9_comes 18 = .ok (.istore_n 3, 1) := by decide +kernel
theorem dX9_comes_19 : decode cX9_comes 19 = .ok (.iconst 0, 1) := by decide +kernel
theorem dX9_comes_20 : decode cX9_comes 20 = .ok (.istore 4, 2) := by decide +kernel
theorem dX9_comes_22 : decode cX9_comes 22 = .ok (.iload 4, 2) := by decide +kernel
theorem dX9_comes_24 : decode cX9_comes 24 = .ok (.aload_n 0, 1) := by decide +kernel
theorem dX9_comes_25 : decode cX9_comes 25 = .ok (.getfield 102, 3) := by decide +kernel
theorem dX9_comes_28 : decode cX9_comes 28 = .ok (.if_icmp .ge 35, 3) := by decide +kernel
theorem dX9_comes_31 : decode cX9_comes 31 = .ok (.aload_n 0, 1) := by decide +kernel
theorem dX9_comes_32 : decode cX9_comes 32 = .ok (.getfield 31, 3) := by decide +kernel
theorem dX9_comes_35 : decode cX9_comes 35 = .ok (.iload_n 1, 1) := by decide +kernel
theorem dX9_comes_36 : decode cX9_comes 36 = .ok (.iload 4, 2) := by decide +kernel
theorem dX9_comes_38 : decode cX9_comes 38 = .ok (.iastore, 1) := by decide +kernel
theorem dX9_comes_39 : decode cX9_comes 39 = .ok (.iload_n 3, 1) := by decide +kernel
theorem dX9_comes_40 : decode cX9_comes 40 = .ok (.aload_n 0, 1) := by decide +kernel
theorem dX9_comes_41 : decode cX9_comes 41 = .ok (.invokevirtual 240, 3) := by decide +kernel
theorem dX9_comes_44 : decode cX9_comes 44 = .ok (.ifCond .eq 10, 3) := by decide +kernel
theorem dX9_comes_47 : decode cX9_comes 47 = .ok (.iconst 1, 1) := by decide +kernel
theorem dX9_comes_48 : decode cX9_comes 48 = .ok (.iload 4, 2) := by decide +kernel
theorem dX9_comes_50 : decode cX9_comes 50 = .ok (.ishl, 1) := by decide +kernel
theorem dX9_comes_51 : decode cX9_comes 51 = .ok (.goto 4, 3) := by decide +kernel
theorem dX9_comes_54 : decode cX9_comes 54 = .ok (.iconst 0, 1) := by decide +kernel
theorem dX9_comes_55 : decode cX9_comes 55 = .ok (.ior, 1) := by decide +kernel
theorem dX9_comes_56 : decode cX9_comes 56 = .ok (.istore_n 3, 1) := by decide +kernel
theorem dX9_comes_57 : decode cX9_comes 57 = .ok (.iinc 4 1, 3) := by decide +kernel
theorem dX9_comes_60 : decode cX9_comes 60 = .ok (.goto (-38), 3) := by decide +kernel
theorem dX9_comes_63 : decode cX9_comes 63 = .ok (.aload_n 0, 1) := by decide +kernel
theorem dX9_comes_64 : decode cX9_comes 64 = .ok (.getfield 31, 3) := by decide +kernel
theorem dX9_comes_67 : decode cX9_comes 67 = .ok (.iload_n 1, 1) := by decide +kernel
theorem dX9_comes_68 : decode cX9_comes 68 = .ok (.iload_n 2, 1) := by decide +kernel
theorem dX9_comes_69 : decode cX9_comes 69 = .ok (.iastore, 1) := by decide +kernel
theorem dX9_comes_70 : decode cX9_comes 70 = .ok (.iload_n 3, 1) := by decide +kernel
theorem dX9_comes_71 : decode cX9_comes 71 = .ok (.ireturn, 1) := by decide +kernel
set_option maxRecDepth 20000 in
theorem ggX9_paid_X9_areSo : GoodIn wsX9_paid wsX9_areSo := goodIn_r _ [7, 8, 9, 10, 11, 12, 13, 14, 15, 6, 16, 1, 17, 18, 19, 20, 21, 22, 23, 24, 25, 26, 27, 28, 29, 30, 31, 32, 33, 34, 35, 36, 2, 37, 38, 39, 40, 41, 42, 43, 44, 45, 46, 47, 48, 49, 50, 51, 52, 53, 54, 55, 56, 57, 58, 59, 60, 61, 62, 63, 64, 65, 66, 67, 68, 69, 70, 71, 72, 73, 74, 75, 76, 77, 78, 79, 80, 81, 82, 83, 84, 85, 86, 87, 88, 89, 90, 91, 92, 93, 94, 95, 96] (by decide +kernel) (by decide +kernel)
set_option maxRecDepth 20000 in
theorem gX9_paid_X9_areSo : GoodIn wsX9_paid (wsV RX9 240 RX9 yX9_areSo wsX9_areSo) := goodIn_app (goodIn_of _ (by decide +kernel)) ggX9_paid_X9_areSo
theorem dX9_paid_0 : decode cX9_paid 0 = .ok (.aload_n 0, 1) := by decide +kernel
theorem dX9_paid_1 : decode cX9_paid 1 = .ok (.getfield 102, 3) := by decide +kernel
theorem dX9_paid_4 : decode cX9_paid 4 = .ok (.ifCond .ne 6, 3) := by decide +kernel
theorem dX9_paid_7 : decode cX9_paid 7 = .ok (.bipush (-3), 2) := by decide +kernel
theorem dX9_paid_9 : decode cX9_paid 9 = .ok (.ireturn, 1) := by decide +kernel
theorem dX9_paid_10 : decode cX9_paid 10 = .ok (.aload_n 0, 1) := by decide +kernel
theorem dX9_paid_11 : decode cX9_paid 11 = .ok (.getfield 158, 3) := by decide +kernel
theorem dX9_paid_14 : decode cX9_paid 14 = .ok (.istore_n 1, 1) := by decide +kernel
theorem dX9_paid_15 : decode cX9_paid 15 = .ok (.iconst 0, 1) := by decide +kernel
theorem dX9_paid_16 : decode cX9_paid 16 = .ok (.istore_n 2, 1) := by decide +kernel
theorem dX9_paid_17 : decode cX9_paid 17 = .ok (.iconst 0, 1) := by decide +kernel
theorem dX9_paid_18 : decode cX9_paid 18 = .ok (.istore_n 3, 1) := by decide +kernel
theorem dX9_paid_19 : decode cX9_paid 19 = .ok (.iload_n 3, 1) := by decide +kernel
theorem dX9_paid_20 : decode cX9_paid 20 = .ok (.aload_n 0, 1) := by decide +kernel
theorem dX9_paid_21 : decode cX9_paid 21 = .ok (.getfield 102, 3) := by decide +kernel
theorem dX9_paid_24 : decode cX9_paid 24 = .ok (.if_icmp .ge 35, 3) := by decide +kernel
theorem dX9_paid_27 : decode cX9_paid 27 = .ok (.aload_n 0, 1) := by decide +kernel
theorem dX9_paid_28 : decode cX9_paid 28 = .ok (.iload_n 1, 1) := by decide +kernel
theorem dX9_paid_29 : decode cX9_paid 29 = .ok (.iconst 1, 1) := by decide +kernel
theorem dX9_paid_30 : decode cX9_paid 30 = .ok (.iload_n 3, 1) := by decide +kernel
theorem dX9_paid_31 : decode cX9_paid 31 = .ok (.ishl, 1) := by decide +kernel
theorem dX9_paid_32 : decode cX9_paid 32 = .ok (.ior, 1) := by decide +kernel
theorem dX9_paid_33 : decode cX9_paid 33 = .ok (.putfield 158, 3) := by decide +kernel
theorem dX9_paid_36 : decode cX9_paid 36 = .ok (.iload_n 2, 1) := by decide +kernel
theorem dX9_paid_37 : decode cX9_paid 37 = .ok (.aload_n 0, 1) := by decide +kernel
theorem dX9_paid_38 : decode cX9_paid 38 = .ok (.invokevirtual 240, 3) := by decide +kernel
theorem dX9_paid_41 : decode cX9_paid 41 = .ok (.ifCond .eq 9, 3) := by decide +kernel
theorem dX9_paid_44 : decode cX9_paid 44 = .ok (.iconst 1, 1) := by decide +kernel
theorem dX9_paid_45 : decode cX9_paid 45 = .ok (.iload_n 3, 1) := by decide +kernel
theorem dX9_paid_46 : decode cX9_paid 46 = .ok (.ishl, 1) := by decide +kernel
theorem dX9_paid_47 : decode cX9_paid 47 = .ok (.goto 4, 3) := by decide +kernel
theorem dX9_paid_50 : decode cX9_paid 50 = .ok (.iconst 0, 1) := by decide +kernel
theorem dX9_paid_51 : decode cX9_paid 51 = .ok (.ior, 1) := by decide +kernel
theorem dX9_paid_52 : decode cX9_paid 52 = .ok (.istore_n 2, 1) := by decide +kernel
theorem dX9_paid_53 : decode cX9_paid 53 = .ok (.iinc 3 1, 3) := by decide +kernel
