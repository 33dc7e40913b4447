theorem dX8_forbidden_27 : decode cX8_forbidden 27 = .ok (.aload_n 0, 1) := by decide +kernel
theorem dX8_forbidden_28 : decode cX8_forbidden 28 = .ok (.getfield 27, 3) := by decide +kernel
theorem dX8_forbidden_31 : decode cX8_forbidden 31 = .ok (.getfield 91, 3) := by decide +kernel
theorem dX8_forbidden_34 : decode cX8_forbidden 34 = .ok (.invokevirtual 143, 3) := by decide +kernel
theorem dX8_forbidden_37 : decode cX8_forbidden 37 = .ok (.aload_n 0, 1) := by decide +kernel
theorem dX8_forbidden_38 : decode cX8_forbidden 38 = .ok (.getfield 36, 3) := by decide +kernel
theorem dX8_forbidden_41 : decode cX8_forbidden 41 = .ok (.invokevirtual 155, 3) := by decide +kernel
theorem dX8_forbidden_44 : decode cX8_forbidden 44 = .ok (.ireturn, 1) := by decide +kernel
set_option maxRecDepth 20000 in
theorem ggX8_dies_X3_has : GoodIn wsX8_dies wsX3_has := goodIn_r _ [5, 6, 120, 121, 122] (by decide +kernel) (by decide +kernel)
set_option maxRecDepth 20000 in
theorem gX8_dies_X3_has_n131 : GoodIn wsX8_dies (wsX3_has) := ggX8_dies_X3_has
set_option maxRecDepth 20000 in
theorem ggX8_dies_X8_deathOf : GoodIn wsX8_dies wsX8_deathOf := goodIn_r _ [11, 1, 12, 13, 3, 14, 15, 16, 17, 2, 4, 5, 6, 18, 10, 19, 20, 21, 22, 23, 24, 25, 26, 27, 28, 29, 30, 31, 32, 33, 34, 35, 36, 37, 38, 39, 40, 41, 42, 43, 44, 45, 46, 47, 48, 49, 50, 51, 52, 53, 54, 55, 56, 57, 58, 59, 60, 61, 62, 63, 64, 65, 66, 67, 68, 69, 70, 71, 72, 73, 74, 75, 76, 77, 78, 79, 80, 81, 82, 83, 84, 85, 86, 87, 88, 89, 90, 91, 92, 93, 94, 95, 96, 97, 98, 99, 100, 101, 102, 103, 104, 105, 106, 107, 108, 109, 110, 111, 112, 113, 114, 115, 116, 117, 118, 119, 120, 121, 122, 123, 124, 125, 126, 127, 128, 129, 130, 131, 132, 133, 134, 135, 136, 137, 138, 139, 140, 141] (by decide +kernel) (by decide +kernel)
set_option maxRecDepth 20000 in
theorem gX8_dies_X8_deathOf : GoodIn wsX8_dies (wsV RX8 158 RX8 yX8_deathOf wsX8_deathOf) := goodIn_app (goodIn_of _ (by decide +kernel)) ggX8_dies_X8_deathOf
theorem dX8_dies_0 : decode cX8_dies 0 = .ok (.aload_n 0, 1) := by decide +kernel
theorem dX8_dies_1 : decode cX8_dies 1 = .ok (.getfield 27, 3) := by decide +kernel
theorem dX8_dies_4 : decode cX8_dies 4 = .ok (.getfield 101, 3) := by decide +kernel
theorem dX8_dies_7 : decode cX8_dies 7 = .ok (.iload_n 1, 1) := by decide +kernel
theorem dX8_dies_8 : decode cX8_dies 8 = .ok (.invokevirtual 131, 3) := by decide +kernel
theorem dX8_dies_11 : decode cX8_dies 11 = .ok (.ifCond .ne 5, 3) := by decide +kernel
theorem dX8_dies_14 : decode cX8_dies 14 = .ok (.iconst (-1), 1) := by decide +kernel
theorem dX8_dies_15 : decode cX8_dies 15 = .ok (.ireturn, 1) := by decide +kernel
theorem dX8_dies_16 : decode cX8_dies 16 = .ok (.aload_n 0, 1) := by decide +kernel
theorem dX8_dies_17 : decode cX8_dies 17 = .ok (.iload_n 1, 1) := by decide +kernel
theorem dX8_dies_18 : decode cX8_dies 18 = .ok (.invokevirtual 158, 3) := by decide +kernel
theorem dX8_dies_21 : decode cX8_dies 21 = .ok (.ireturn, 1) := by decide +kernel
set_option maxRecDepth 20000 in
theorem ggX8_free_X8_isOneOf : GoodIn wsX8_free wsX8_isOneOf := goodIn_r _ [6] (by decide +kernel) (by decide +kernel)
set_option maxRecDepth 20000 in
theorem gX8_free_X8_isOneOf : GoodIn wsX8_free (va_wsS RX8 49 yX8_isOneOf wsX8_isOneOf) := goodIn_app (goodIn_of _ (by decide +kernel)) ggX8_free_X8_isOneOf
set_option maxRecDepth 20000 in
theorem ggX8_free_X8_refusal : GoodIn wsX8_free wsX8_refusal := goodIn_r _ [10, 2, 11, 12, 13, 14, 15, 122, 123, 124, 125, 126, 127, 128, 129, 130, 131, 132, 133, 134] (by decide +kernel) (by decide +kernel)
set_option maxRecDepth 20000 in
theorem gX8_free_X8_refusal : GoodIn wsX8_free (wsV RX8 97 RX8 yX8_refusal wsX8_refusal) := goodIn_app (goodIn_of _ (by decide +kernel)) ggX8_free_X8_refusal
set_option maxRecDepth 20000 in
theorem ggX8_free_X4_begin : GoodIn wsX8_free wsX4_begin := goodIn_r _ [19, 20, 21, 22, 23, 24, 25, 26, 27, 28, 12, 29, 30, 15, 31, 4, 5, 6, 32, 33, 34, 35, 36, 37, 38, 39, 40, 41, 42, 43, 44, 45, 46, 47, 48, 49, 50, 51, 52, 53, 54, 55, 56, 57, 135, 136, 137, 138, 139, 140, 141, 142, 143, 144, 127, 128, 129, 130, 131, 132, 133, 134, 145, 146, 147, 148, 149, 150, 151, 152, 153] (by decide +kernel) (by decide +kernel)
set_option maxRecDepth 20000 in
theorem gX8_free_X4_begin_n161 : GoodIn wsX8_free (wsX4_begin) := ggX8_free_X4_begin
set_option maxRecDepth 20000 in
theorem ggX8_free_X4_pass : GoodIn wsX8_free wsX4_pass := goodIn_r _ [60, 22, 61, 62, 63, 17, 64, 23, 65, 26, 66, 67, 68, 69, 24, 70, 71, 72, 73, 74, 75, 76, 77, 78, 79, 4, 5, 6, 80, 81, 82, 83, 84, 85, 86, 87, 25, 88, 89, 90, 91, 92, 27, 20, 93, 94, 95, 96, 97, 98, 99, 100, 101, 102, 103, 104, 105, 106, 21, 135, 136, 137, 138, 139, 140, 141, 142, 143, 144, 127, 128, 129, 130, 131, 132, 133, 134, 154, 155, 156] (by decide +kernel) (by decide +kernel)
set_option maxRecDepth 20000 in
theorem gX8_free_X4_pass_n164 : GoodIn wsX8_free (wsX4_pass) := ggX8_free_X4_pass
set_option maxRecDepth 20000 in
theorem ggX8_free_X4_isBanned : GoodIn wsX8_free wsX4_isBanned := goodIn_r _ [109, 110, 111, 112, 17, 113, 23, 114, 115, 116, 117, 26, 101, 5, 102, 118, 119, 120, 121, 22, 70, 71, 72, 73, 74, 75, 76, 77, 78, 79, 4, 6, 135, 136, 137, 138, 139, 140, 141, 142, 143, 144, 127, 128, 129, 130, 131, 132, 133, 134, 154, 155, 156] (by decide +kernel) (by decide +kernel)
set_option maxRecDepth 20000 in
theorem gX8_free_X4_isBanned_n167 : GoodIn wsX8_free (wsX4_isBanned) := ggX8_free_X4_isBanned
theorem dX8_free_0 : decode cX8_free 0 = .ok (.aload_n 0, 1) := by decide +kernel
theorem dX8_free_1 : decode cX8_free 1 = .ok (.iload_n 1, 1) := by decide +kernel
theorem dX8_free_2 : decode cX8_free 2 = .ok (.bipush 6, 2) := by decide +kernel
theorem dX8_free_4 : decode cX8_free 4 = .ok (.invokestatic 49, 3) := by decide +kernel
theorem dX8_free_7 : decode cX8_free 7 = .ok (.iload_n 2, 1) := by decide +kernel
theorem dX8_free_8 : decode cX8_free 8 = .ok (.bipush 40, 2) := by decide +kernel
theorem dX8_free_10 : decode cX8_free 10 = .ok (.invokestatic 49, 3) := by decide +kernel
theorem dX8_free_13 : decode cX8_free 13 = .ok (.invokevirtual 97, 3) := by decide +kernel
theorem dX8_free_16 : decode cX8_free 16 = .ok (.istore_n 3, 1) := by decide +kernel
theorem dX8_free_17 : decode cX8_free 17 = .ok (.iload_n 3, 1) := by decide +kernel
theorem dX8_free_18 : decode cX8_free 18 = .ok (.ifCond .eq 5, 3) := by decide +kernel
theorem dX8_free_21 : decode cX8_free 21 = .ok (.iload_n 3, 1) := by decide +kernel
theorem dX8_free_22 : decode cX8_free 22 = .ok (.ireturn, 1) := by decide +kernel
theorem dX8_free_23 : decode cX8_free 23 = .ok (.aload_n 0, 1) := by decide +kernel
theorem dX8_free_24 : decode cX8_free 24 = .ok (.getfield 36, 3) := by decide +kernel
theorem dX8_free_27 : decode cX8_free 27 = .ok (.aload_n 0, 1) := by decide +kernel
theorem dX8_free_28 : decode cX8_free 28 = .ok (.getfield 27, 3) := by decide +kernel
theorem dX8_free_31 : decode cX8_free 31 = .ok (.getfield 91, 3) := by decide +kernel
theorem dX8_free_34 : decode cX8_free 34 = .ok (.aload_n 0, 1) := by decide +kernel
theorem dX8_free_35 : decode cX8_free 35 = .ok (.getfield 27, 3) := by decide +kernel
theorem dX8_free_38 : decode cX8_free 38 = .ok (.getfield 128, 3) := by decide +kernel
theorem dX8_free_41 : decode cX8_free 41 = .ok (.invokevirtual 161, 3) := by decide +kernel
theorem dX8_free_44 : decode cX8_free 44 = .ok (.iconst 0, 1) := by decide +kernel
theorem dX8_free_45 : decode cX8_free 45 = .ok (.istore 4, 2) := by decide +kernel
theorem dX8_free_47 : decode cX8_free 47 = .ok (.iload 4, 2) := by decide +kernel
theorem dX8_free_49 : decode cX8_free 49 = .ok (.bipush 40, 2) := by decide +kernel
theorem dX8_free_51 : decode cX8_free 51 = .ok (.if_icmp .ge 36, 3) := by decide +kernel
theorem dX8_free_54 : decode cX8_free 54 = .ok (.aload_n 0, 1) := by decide +kernel
theorem dX8_free_55 : decode cX8_free 55 = .ok (.getfield 36, 3) := by decide +kernel
theorem dX8_free_58 : decode cX8_free 58 = .ok (.invokevirtual 164, 3) := by decide +kernel
theorem dX8_free_61 : decode cX8_free 61 = .ok (.iload 4, 2) := by decide +kernel
theorem dX8_free_63 : decode cX8_free 63 = .ok (.iload_n 2, 1) := by decide +kernel
theorem dX8_free_64 : decode cX8_free 64 = .ok (.if_icmp .lt 17, 3) := by decide +kernel
theorem dX8_free_67 : decode cX8_free 67 = .ok (.aload_n 0, 1) := by decide +kernel
theorem dX8_free_68 : decode cX8_free 68 = .ok (.getfield 36, 3) := by decide +kernel
theorem dX8_free_71 : decode cX8_free 71 = .ok (.iload_n 1, 1) := by decide +kernel
theorem dX8_free_72 : decode cX8_free 72 = .ok (.invokevirtual 167, 3) := by decide +kernel
theorem dX8_free_75 : decode cX8_free 75 = .ok (.ifCond .ne 6, 3) := by decide +kernel
theorem dX8_free_78 : decode cX8_free 78 = .ok (.iload 4, 2) := by decide +kernel
theorem dX8_free_80 : decode cX8_free 80 = .ok (.ireturn, 1) := by decide +kernel
theorem dX8_free_81 : decode cX8_free 81 = .ok (.iinc 4 1, 3) := by decide +kernel
theorem dX8_free_84 : decode cX8_free 84 = .ok (.goto (-37), 3) := by decide +kernel
theorem dX8_free_87 : decode cX8_free 87 = .ok (.bipush (-9), 2) := by decide +kernel
theorem dX8_free_89 : decode cX8_free 89 = .ok (.ireturn, 1) := by decide +kernel
set_option maxRecDepth 20000 in
theorem ggX8_fewest_X8_isOneOf : GoodIn wsX8_fewest wsX8_isOneOf := goodIn_r _ [5] (by decide +kernel) (by decide +kernel)
set_option maxRecDepth 20000 in
theorem gX8_fewest_X8_isOneOf : GoodIn wsX8_fewest (va_wsS RX8 49 yX8_isOneOf wsX8_isOneOf) := goodIn_app (goodIn_of _ (by decide +kernel)) ggX8_fewest_X8_isOneOf
set_option maxRecDepth 20000 in
theorem ggX8_fewest_X8_refusal : GoodIn wsX8_fewest wsX8_refusal := goodIn_r _ [9, 1, 10, 11, 12, 13, 14, 137, 138, 139, 140, 141, 142, 143, 144, 145, 146, 147, 148, 149] (by decide +kernel) (by decide +kernel)
set_option maxRecDepth 20000 in
theorem gX8_fewest_X8_refusal : GoodIn wsX8_fewest (wsV RX8 97 RX8 yX8_refusal wsX8_refusal) := goodIn_app (goodIn_of _ (by decide +kernel)) ggX8_fewest_X8_refusal
set_option maxRecDepth 20000 in
theorem ggX8_fewest_J6_bitCount_0f7a4 : GoodIn wsX8_fewest wsJ6_bitCount_0f7a4 := goodIn_r _ [18, 19, 20, 21] (by decide +kernel) (by decide +kernel)
set_option maxRecDepth 20000 in
theorem gX8_fewest_J6_bitCount_0f7a4 : GoodIn wsX8_fewest (va_wsS RX8 170 yJ6_bitCount_0f7a4 wsJ6_bitCount_0f7a4) := goodIn_app (goodIn_of _ (by decide +kernel)) ggX8_fewest_J6_bitCount_0f7a4
set_option maxRecDepth 20000 in
theorem ggX8_fewest_X8_isBannedIfPaid : GoodIn wsX8_fewest wsX8_isBannedIfPaid := goodIn_r _ [25, 26, 27, 28, 29, 4, 30, 1, 31, 32, 33, 34, 35, 36, 37, 38, 39, 40, 41, 42, 43, 11, 44, 45, 14, 46, 3, 5, 47, 48, 49, 50, 51, 52, 53, 54, 55, 56, 57, 58, 59, 60, 61, 62, 63, 64, 65, 66, 67, 68, 69, 70, 71, 72, 73, 74, 75, 76, 77, 78, 79, 80, 81, 82, 83, 84, 85, 86, 87, 88, 89, 90, 91, 92, 93, 94, 95, 96, 97, 98, 99, 100, 101, 102, 103, 104, 105, 106, 107, 108, 109, 110, 111, 112, 113, 114, 115, 116, 117, 118, 119, 120, 121, 122, 123, 124, 125, 126, 127, 128, 129, 130, 131, 132, 133, 134, 135, 136, 137, 138, 139, 140, 141, 142, 143, 144, 145, 146, 147, 148, 149, 150, 151, 152, 153, 154, 155, 156, 157, 158, 159, 160, 161, 162, 163, 164, 165, 166, 167, 168, 169, 170, 171] (by decide +kernel) (by decide +kernel)
set_option maxRecDepth 20000 in
theorem gX8_fewest_X8_isBannedIfPaid : GoodIn wsX8_fewest (wsV RX8 175 RX8 yX8_isBannedIfPaid wsX8_isBannedIfPaid) := goodIn_app (goodIn_of _ (by decide +kernel)) ggX8_fewest_X8_isBannedIfPaid
theorem dX8_fewest_0 : decode cX8_fewest 0 = .ok (.aload_n 0, 1) := by decide +kernel
theorem dX8_fewest_1 : decode cX8_fewest 1 = .ok (.iload_n 1, 1) := by decide +kernel
theorem dX8_fewest_2 : decode cX8_fewest 2 = .ok (.bipush 6, 2) := by decide +kernel
theorem dX8_fewest_4 : decode cX8_fewest 4 = .ok (.invokestatic 49, 3) := by decide +kernel
theorem dX8_fewest_7 : decode cX8_fewest 7 = .ok (.iload_n 2, 1) := by decide +kernel
theorem dX8_fewest_8 : decode cX8_fewest 8 = .ok (.bipush 40, 2) := by decide +kernel
theorem dX8_fewest_10 : decode cX8_fewest 10 = .ok (.invokestatic 49, 3) := by decide +kernel
theorem dX8_fewest_13 : decode cX8_fewest 13 = .ok (.invokevirtual 97, 3) := by decide +kernel
theorem dX8_fewest_16 : decode cX8_fewest 16 = .ok (.istore_n 3, 1) := by decide +kernel
theorem dX8_fewest_17 : decode cX8_fewest 17 = .ok (.iload_n 3, 1) := by decide +kernel
theorem dX8_fewest_18 : decode cX8_fewest 18 = .ok (.ifCond .eq 5, 3) := by decide +kernel
theorem dX8_fewest_21 : decode cX8_fewest 21 = .ok (.iload_n 3, 1) := by decide +kernel
theorem dX8_fewest_22 : decode cX8_fewest 22 = .ok (.ireturn, 1) := by decide +kernel
theorem dX8_fewest_23 : decode cX8_fewest 23 = .ok (.bipush (-9), 2) := by decide +kernel
theorem dX8_fewest_25 : decode cX8_fewest 25 = .ok (.istore 4, 2) := by decide +kernel
theorem dX8_fewest_27 : decode cX8_fewest 27 = .ok (.iconst 0, 1) := by decide +kernel
theorem dX8_fewest_28 : decode cX8_fewest 28 = .ok (.istore 5, 2) := by decide +kernel
theorem dX8_fewest_30 : decode cX8_fewest 30 = .ok (.iload 5, 2) := by decide +kernel
theorem dX8_fewest_32 : decode cX8_fewest 32 = .ok (.iconst 1, 1) := by decide +kernel
theorem dX8_fewest_33 : decode cX8_fewest 33 = .ok (.aload_n 0, 1) := by decide +kernel
theorem dX8_fewest_34 : decode cX8_fewest 34 = .ok (.getfield 27, 3) := by decide +kernel
theorem dX8_fewest_37 : decode cX8_fewest 37 = .ok (.getfield 69, 3) := by decide +kernel
theorem dX8_fewest_40 : decode cX8_fewest 40 = .ok (.ishl, 1) := by decide +kernel
theorem dX8_fewest_41 : decode cX8_fewest 41 = .ok (.if_icmp .ge 77, 3) := by decide +kernel
theorem dX8_fewest_44 : decode cX8_fewest 44 = .ok (.iload 4, 2) := by decide +kernel
theorem dX8_fewest_46 : decode cX8_fewest 46 = .ok (.bipush (-9), 2) := by decide +kernel
theorem dX8_fewest_48 : decode cX8_fewest 48 = .ok (.if_icmp .eq 16, 3) := by decide +kernel
theorem dX8_fewest_51 : decode cX8_fewest 51 = .ok (.iload 5, 2) := by decide +kernel
theorem dX8_fewest_53 : decode cX8_fewest 53 = .ok (.invokestatic 170, 3) := by decide +kernel
theorem dX8_fewest_56 : decode cX8_fewest 56 = .ok (.iload 4, 2) := by decide +kernel
theorem dX8_fewest_58 : decode cX8_fewest 58 = .ok (.invokestatic 170, 3) := by decide +kernel
theorem dX8_fewest_61 : decode cX8_fewest 61 = .ok (.if_icmp .ge 7, 3) := by decide +kernel
theorem dX8_fewest_64 : decode cX8_fewest 64 = .ok (.iconst 1, 1) := by decide +kernel
theorem dX8_fewest_65 : decode cX8_fewest 65 = .ok (.goto 4, 3) := by decide +kernel
theorem dX8_fewest_68 : decode cX8_fewest 68 = .ok (.iconst 0, 1) := by decide +kernel
theorem dX8_fewest_69 : decode cX8_fewest 69 = .ok (.istore 6, 2) := by decide +kernel
theorem dX8_fewest_71 : decode cX8_fewest 71 = .ok (.iload 6, 2) := by decide +kernel
theorem dX8_fewest_73 : decode cX8_fewest 73 = .ok (.ifCond .eq 39, 3) := by decide +kernel
theorem dX8_fewest_76 : decode cX8_fewest 76 = .ok (.iload 5, 2) := by decide +kernel
theorem dX8_fewest_78 : decode cX8_fewest 78 = .ok (.aload_n 0, 1) := by decide +kernel
theorem dX8_fewest_79 : decode cX8_fewest 79 = .ok (.getfield 27, 3) := by decide +kernel
theorem dX8_fewest_82 : decode cX8_fewest 82 = .ok (.getfield 91, 3) := by decide +kernel
theorem dX8_fewest_85 : decode cX8_fewest 85 = .ok (.iand, 1) := by decide +kernel
theorem dX8_fewest_86 : decode cX8_fewest 86 = .ok (.ifCond .ne 26, 3) := by decide +kernel
theorem dX8_fewest_89 : decode cX8_fewest 89 = .ok (.aload_n 0, 1) := by decide +kernel
theorem dX8_fewest_90 : decode cX8_fewest 90 = .ok (.iload_n 1, 1) := by decide +kernel
theorem dX8_fewest_91 : decode cX8_fewest 91 = .ok (.iload_n 2, 1) := by decide +kernel
theorem dX8_fewest_92 : decode cX8_fewest 92 = .ok (.aload_n 0, 1) := by decide +kernel
theorem dX8_fewest_93 : decode cX8_fewest 93 = .ok (.getfield 27, 3) := by decide +kernel
theorem dX8_fewest_96 : decode cX8_fewest 96 = .ok (.getfield 91, 3) := by decide +kernel
theorem dX8_fewest_99 : decode cX8_fewest 99 = .ok (.iload 5, 2) := by decide +kernel
theorem dX8_fewest_101 : decode cX8_fewest 101 = .ok (.ior, 1) := by decide +kernel
theorem dX8_fewest_102 : decode cX8_fewest 102 = .ok (.invokevirtual 175, 3) := by decide +kernel
theorem dX8_fewest_105 : decode cX8_fewest 105 = .ok (.ifCond .ne 7, 3) := by decide +kernel
theorem dX8_fewest_108 : decode cX8_fewest 108 = .ok (.iload 5, 2) := by decide +kernel
theorem dX8_fewest_110 : decode cX8_fewest 110 = .ok (.istore 4, 2) := by decide +kernel
theorem dX8_fewest_112 : decode cX8_fewest 112 = .ok (.iinc 5 1, 3) := by decide +kernel
theorem dX8_fewest_115 : decode cX8_fewest 115 = .ok (.goto (-85), 3) := by decide +kernel
theorem dX8_fewest_118 : decode cX8_fewest 118 = .ok (.iload 4, 2) := by decide +kernel
theorem dX8_fewest_120 : decode cX8_fewest 120 = .ok (.ireturn, 1) := by decide +kernel
set_option maxRecDepth 20000 in
theorem ggX8_longest_X8_isOneOf : GoodIn wsX8_longest wsX8_isOneOf := goodIn_r _ [5] (by decide +kernel) (by decide +kernel)
set_option maxRecDepth 20000 in
theorem gX8_longest_X8_isOneOf : GoodIn wsX8_longest (va_wsS RX8 49 yX8_isOneOf wsX8_isOneOf) := goodIn_app (goodIn_of _ (by decide +kernel)) ggX8_longest_X8_isOneOf
set_option maxRecDepth 20000 in
theorem ggX8_longest_X6_isEmpty : GoodIn wsX8_longest wsX6_isEmpty := goodIn_r _ [9, 10, 127, 128, 129, 130, 131, 132, 133, 134] (by decide +kernel) (by decide +kernel)
set_option maxRecDepth 20000 in
theorem gX8_longest_X6_isEmpty_n124 : GoodIn wsX8_longest (wsX6_isEmpty) := ggX8_longest_X6_isEmpty
set_option maxRecDepth 20000 in
theorem ggX8_longest_X3_add : GoodIn wsX8_longest wsX3_add := goodIn_r _ [14, 15, 16, 17, 18, 19, 12, 20, 21, 22, 23, 24, 25, 3, 4, 5, 135, 136, 137] (by decide +kernel) (by decide +kernel)
set_option maxRecDepth 20000 in
theorem gX8_longest_X3_add_n105 : GoodIn wsX8_longest (wsX3_add) := ggX8_longest_X3_add
set_option maxRecDepth 20000 in
theorem ggX8_longest_X3_set : GoodIn wsX8_longest wsX3_set := goodIn_r _ [20, 21, 22, 23, 24, 12, 25, 15, 3, 4, 5, 135, 136, 137] (by decide +kernel) (by decide +kernel)
set_option maxRecDepth 20000 in
theorem gX8_longest_X3_set_n139 : GoodIn wsX8_longest (wsX3_set) := ggX8_longest_X3_set
set_option maxRecDepth 20000 in
theorem ggX8_longest_X8_deathOf : GoodIn wsX8_longest wsX8_deathOf := goodIn_r _ [29, 1, 30, 31, 12, 32, 33, 21, 22, 23, 24, 25, 15, 3, 4, 5, 34, 35, 36, 37, 38, 39, 40, 41, 42, 43, 44, 45, 46, 7, 47, 48, 10, 49, 50, 51, 52, 53, 54, 55, 56, 57, 58, 59, 60, 61, 62, 63, 64, 65, 66, 67, 68, 69, 70, 71, 72, 73, 74, 75, 76, 77, 78, 79, 80, 81, 82, 83, 84, 85, 86, 87, 88, 89, 90, 91, 92, 93, 94, 95, 96, 97, 98, 99, 100, 101, 102, 103, 104, 105, 106, 107, 108, 109, 110, 111, 112, 113, 114, 115, 116, 117, 118, 122, 123, 124, 125, 126, 127, 128, 129, 130, 131, 132, 133, 134, 135, 136, 137, 138, 139, 140, 141, 142, 143, 144, 145, 146, 147, 148, 149, 150, 151, 152, 153, 154, 155, 156] (by decide +kernel) (by decide +kernel)
set_option maxRecDepth 20000 in
theorem gX8_longest_X8_deathOf : GoodIn wsX8_longest (wsV RX8 158 RX8 yX8_deathOf wsX8_deathOf) := goodIn_app (goodIn_of _ (by decide +kernel)) ggX8_longest_X8_deathOf
set_option maxRecDepth 20000 in
theorem ggX8_longest_X3_takeBack : GoodIn wsX8_longest wsX3_takeBack := goodIn_r _ [121, 15, 135, 136, 137] (by decide +kernel) (by decide +kernel)
set_option maxRecDepth 20000 in
theorem gX8_longest_X3_takeBack_n111 : GoodIn wsX8_longest (wsX3_takeBack) := ggX8_longest_X3_takeBack
theorem dX8_longest_0 : decode cX8_longest 0 = .ok (.iload_n 1, 1) := by decide +kernel
theorem dX8_longest_1 : decode cX8_longest 1 = .ok (.bipush 40, 2) := by decide +kernel
theorem dX8_longest_3 : decode cX8_longest 3 = .ok (.invokestatic 49, 3) := by decide +kernel
theorem dX8_longest_6 : decode cX8_longest 6 = .ok (.ifCond .eq 11, 3) := by decide +kernel
theorem dX8_longest_9 : decode cX8_longest 9 = .ok (.iload_n 2, 1) := by decide +kernel
theorem dX8_longest_10 : decode cX8_longest 10 = .ok (.iconst 2, 1) := by decide +kernel
theorem dX8_longest_11 : decode cX8_longest 11 = .ok (.invokestatic 49, 3) := by decide +kernel
theorem dX8_longest_14 : decode cX8_longest 14 = .ok (.ifCond .ne 6, 3) := by decide +kernel
theorem dX8_longest_17 : decode cX8_longest 17 = .ok (.bipush (-2), 2) := by decide +kernel
theorem dX8_longest_19 : decode cX8_longest 19 = .ok (.ireturn, 1) := by decide +kernel
theorem dX8_longest_20 : decode cX8_longest 20 = .ok (.aload_n 0, 1) := by decide +kernel
theorem dX8_longest_21 : decode cX8_longest 21 = .ok (.getfield 27, 3) := by decide +kernel
theorem dX8_longest_24 : decode cX8_longest 24 = .ok (.invokevirtual 124, 3) := by decide +kernel
theorem dX8_longest_27 : decode cX8_longest 27 = .ok (.ifCond .eq 6, 3) := by decide +kernel
theorem dX8_longest_30 : decode cX8_longest 30 = .ok (.bipush (-3), 2) := by decide +kernel
theorem dX8_longest_32 : decode cX8_longest 32 = .ok (.ireturn, 1) := by decide +kernel
theorem dX8_longest_33 : decode cX8_longest 33 = .ok (.aload_n 0, 1) := by decide +kernel
theorem dX8_longest_34 : decode cX8_longest 34 = .ok (.getfield 27, 3) := by decide +kernel
theorem dX8_longest_37 : decode cX8_longest 37 = .ok (.getfield 101, 3) := by decide +kernel
theorem dX8_longest_40 : decode cX8_longest 40 = .ok (.iconst 0, 1) := by decide +kernel
theorem dX8_longest_41 : decode cX8_longest 41 = .ok (.iload_n 1, 1) := by decide +kernel
theorem dX8_longest_42 : decode cX8_longest 42 = .ok (.iconst 0, 1) := by decide +kernel
theorem dX8_longest_43 : decode cX8_longest 43 = .ok (.iconst 0, 1) := by decide +kernel
theorem dX8_longest_44 : decode cX8_longest 44 = .ok (.invokevirtual 105, 3) := by decide +kernel
theorem dX8_longest_47 : decode cX8_longest 47 = .ok (.istore_n 3, 1) := by decide +kernel
theorem dX8_longest_48 : decode cX8_longest 48 = .ok (.iload_n 3, 1) := by decide +kernel
theorem dX8_longest_49 : decode cX8_longest 49 = .ok (.bipush (-4), 2) := by decide +kernel
theorem dX8_longest_51 : decode cX8_longest 51 = .ok (.if_icmp .ne 6, 3) := by decide +kernel
theorem dX8_longest_54 : decode cX8_longest 54 = .ok (.bipush (-4), 2) := by decide +kernel
theorem dX8_longest_56 : decode cX8_longest 56 = .ok (.ireturn, 1) := by decide +kernel
theorem dX8_longest_57 : decode cX8_longest 57 = .ok (.iconst 0, 1) := by decide +kernel
theorem dX8_longest_58 : decode cX8_longest 58 = .ok (.istore 4, 2) := by decide +kernel
theorem dX8_longest_60 : decode cX8_longest 60 = .ok (.iconst 0, 1) := by decide +kernel
theorem dX8_longest_61 : decode cX8_longest 61 = .ok (.istore 5, 2) := by decide +kernel
theorem dX8_longest_63 : decode cX8_longest 63 = .ok (.iconst 0, 1) := by decide +kernel
theorem dX8_longest_64 : decode cX8_longest 64 = .ok (.istore 6, 2) := by decide +kernel
theorem dX8_longest_66 : decode cX8_longest 66 = .ok (.iload 6, 2) := by decide +kernel
theorem dX8_longest_68 : decode cX8_longest 68 = .ok (.aload_n 0, 1) := by decide +kernel
theorem dX8_longest_69 : decode cX8_longest 69 = .ok (.getfield 27, 3) := by decide +kernel
theorem dX8_longest_72 : decode cX8_longest 72 = .ok (.getfield 69, 3) := by decide +kernel
theorem dX8_longest_75 : decode cX8_longest 75 = .ok (.if_icmp .ge 61, 3) := by decide +kernel
theorem dX8_longest_78 : decode cX8_longest 78 = .ok (.aload_n 0, 1) := by decide +kernel
theorem dX8_longest_79 : decode cX8_longest 79 = .ok (.getfield 27, 3) := by decide +kernel
theorem dX8_longest_82 : decode cX8_longest 82 = .ok (.getfield 101, 3) := by decide +kernel
theorem dX8_longest_85 : decode cX8_longest 85 = .ok (.iload_n 3, 1) := by decide +kernel
theorem dX8_longest_86 : decode cX8_longest 86 = .ok (.iconst 0, 1) := by decide +kernel
theorem dX8_longest_87 : decode cX8_longest 87 = .ok (.iload 6, 2) := by decide +kernel
theorem dX8_longest_89 : decode cX8_longest 89 = .ok (.invokevirtual 139, 3) := by decide +kernel
theorem dX8_longest_92 : decode cX8_longest 92 = .ok (.aload_n 0, 1) := by decide +kernel
theorem dX8_longest_93 : decode cX8_longest 93 = .ok (.iload_n 3, 1) := by decide +kernel
theorem dX8_longest_94 : decode cX8_longest 94 = .ok (.invokevirtual 158, 3) := by decide +kernel
theorem dX8_longest_97 : decode cX8_longest 97 = .ok (.istore 7, 2) := by decide +kernel
theorem dX8_longest_99 : decode cX8_longest 99 = .ok (.iload 7, 2) := by decide +kernel
theorem dX8_longest_101 : decode cX8_longest 101 = .ok (.bipush (-9), 2) := by decide +kernel
theorem dX8_longest_103 : decode cX8_longest 103 = .ok (.if_icmp .ne 8, 3) := by decide +kernel
theorem dX8_longest_106 : decode cX8_longest 106 = .ok (.bipush 40, 2) := by decide +kernel
theorem dX8_longest_108 : decode cX8_longest 108 = .ok (.goto 5, 3) := by decide +kernel
theorem dX8_longest_111 : decode cX8_longest 111 = .ok (.iload 7, 2) := by decide +kernel
theorem dX8_longest_113 : decode cX8_longest 113 = .ok (.istore 8, 2) := by decide +kernel
theorem dX8_longest_115 : decode cX8_longest 115 = .ok (.iload 8, 2) := by decide +kernel
theorem dX8_longest_117 : decode cX8_longest 117 = .ok (.iload 5, 2) := by decide +kernel
theorem dX8_longest_119 : decode cX8_longest 119 = .ok (.if_icmp .le 11, 3) := by decide +kernel
theorem dX8_longest_122 : decode cX8_longest 122 = .ok (.iload 6, 2) := by decide +kernel
theorem dX8_longest_124 : decode cX8_longest 124 = .ok (.istore 4, 2) := by decide +kernel
theorem dX8_longest_126 : decode cX8_longest 126 = .ok (.iload 8, 2) := by decide +kernel
theorem dX8_longest_128 : decode cX8_longest 128 = .ok (.istore 5, 2) := by decide +kernel
theorem dX8_longest_130 : decode cX8_longest 130 = .ok (.iinc 6 1, 3) := by decide +kernel
theorem dX8_longest_133 : decode cX8_longest 133 = .ok (.goto (-67), 3) := by decide +kernel
theorem dX8_longest_136 : decode cX8_longest 136 = .ok (.aload_n 0, 1) := by decide +kernel
theorem dX8_longest_137 : decode cX8_longest 137 = .ok (.getfield 27, 3) := by decide +kernel
theorem dX8_longest_140 : decode cX8_longest 140 = .ok (.getfield 101, 3) := by decide +kernel
theorem dX8_longest_143 : decode cX8_longest 143 = .ok (.iconst 1, 1) := by decide +kernel
theorem dX8_longest_144 : decode cX8_longest 144 = .ok (.invokevirtual 111, 3) := by decide +kernel
theorem dX8_longest_147 : decode cX8_longest 147 = .ok (.pop, 1) := by decide +kernel
theorem dX8_longest_148 : decode cX8_longest 148 = .ok (.iload_n 2, 1) := by decide +kernel
theorem dX8_longest_149 : decode cX8_longest 149 = .ok (.ifCond .ne 6, 3) := by decide +kernel
theorem dX8_longest_152 : decode cX8_longest 152 = .ok (.iload 4, 2) := by decide +kernel
theorem dX8_longest_154 : decode cX8_longest 154 = .ok (.ireturn, 1) := by decide +kernel
theorem dX8_longest_155 : decode cX8_longest 155 = .ok (.iload 5, 2) := by decide +kernel
theorem dX8_longest_157 : decode cX8_longest 157 = .ok (.bipush 40, 2) := by decide +kernel
theorem dX8_longest_159 : decode cX8_longest 159 = .ok (.if_icmp .ne 8, 3) := by decide +kernel
theorem dX8_longest_162 : decode cX8_longest 162 = .ok (.bipush (-9), 2) := by decide +kernel
theorem dX8_longest_164 : decode cX8_longest 164 = .ok (.goto 5, 3) := by decide +kernel
theorem dX8_longest_167 : decode cX8_longest 167 = .ok (.iload 5, 2) := by decide +kernel
theorem dX8_longest_169 : decode cX8_longest 169 = .ok (.ireturn, 1) := by decide +kernel
set_option maxRecDepth 20000 in
theorem ggX8_need_X8_isOneOf : GoodIn wsX8_need wsX8_isOneOf := goodIn_r _ [5] (by decide +kernel) (by decide +kernel)
set_option maxRecDepth 20000 in
theorem gX8_need_X8_isOneOf : GoodIn wsX8_need (va_wsS RX8 49 yX8_isOneOf wsX8_isOneOf) := goodIn_app (goodIn_of _ (by decide +kernel)) ggX8_need_X8_isOneOf
set_option maxRecDepth 20000 in
theorem ggX8_need_X6_isEmpty : GoodIn wsX8_need wsX6_isEmpty := goodIn_r _ [9, 10, 31, 32, 33, 34, 35, 36, 37, 38] (by decide +kernel) (by decide +kernel)
set_option maxRecDepth 20000 in
theorem gX8_need_X6_isEmpty_n124 : GoodIn wsX8_need (wsX6_isEmpty) := ggX8_need_X6_isEmpty
set_option maxRecDepth 20000 in
theorem ggX8_need_X3_add : GoodIn wsX8_need wsX3_add := goodIn_r _ [14, 15, 16, 17, 18, 19, 12, 20, 21, 22, 23, 24, 25, 3, 4, 5, 39, 40, 41] (by decide +kernel) (by decide +kernel)
set_option maxRecDepth 20000 in
theorem gX8_need_X3_add_n105 : GoodIn wsX8_need (wsX3_add) := ggX8_need_X3_add
theorem dX8_need_0 : decode cX8_need 0 = .ok (.iload_n 1, 1) := by decide +kernel
theorem dX8_need_1 : decode cX8_need 1 = .ok (.bipush 6, 2) := by decide +kernel
theorem dX8_need_3 : decode cX8_need 3 = .ok (.invokestatic 49, 3) := by decide +kernel
theorem dX8_need_6 : decode cX8_need 6 = .ok (.ifCond .eq 12, 3) := by decide +kernel
theorem dX8_need_9 : decode cX8_need 9 = .ok (.iload_n 2, 1) := by decide +kernel
theorem dX8_need_10 : decode cX8_need 10 = .ok (.bipush 6, 2) := by decide +kernel
theorem dX8_need_12 : decode cX8_need 12 = .ok (.invokestatic 49, 3) := by decide +kernel
theorem dX8_need_15 : decode cX8_need 15 = .ok (.ifCond .ne 5, 3) := by decide +kernel
theorem dX8_need_18 : decode cX8_need 18 = .ok (.iconst (-1), 1) := by decide +kernel
theorem dX8_need_19 : decode cX8_need 19 = .ok (.ireturn, 1) := by decide +kernel
theorem dX8_need_20 : decode cX8_need 20 = .ok (.aload_n 0, 1) := by decide +kernel
theorem dX8_need_21 : decode cX8_need 21 = .ok (.getfield 27, 3) := by decide +kernel
theorem dX8_need_24 : decode cX8_need 24 = .ok (.invokevirtual 124, 3) := by decide +kernel
theorem dX8_need_27 : decode cX8_need 27 = .ok (.ifCond .eq 6, 3) := by decide +kernel
theorem dX8_need_30 : decode cX8_need 30 = .ok (.bipush (-3), 2) := by decide +kernel
theorem dX8_need_32 : decode cX8_need 32 = .ok (.ireturn, 1) := by decide +kernel
theorem dX8_need_33 : decode cX8_need 33 = .ok (.aload_n 0, 1) := by decide +kernel
theorem dX8_need_34 : decode cX8_need 34 = .ok (.getfield 27, 3) := by decide +kernel
theorem dX8_need_37 : decode cX8_need 37 = .ok (.getfield 179, 3) := by decide +kernel
theorem dX8_need_40 : decode cX8_need 40 = .ok (.iload_n 1, 1) := by decide +kernel
theorem dX8_need_41 : decode cX8_need 41 = .ok (.iload_n 2, 1) := by decide +kernel
theorem dX8_need_42 : decode cX8_need 42 = .ok (.iconst 0, 1) := by decide +kernel
theorem dX8_need_43 : decode cX8_need 43 = .ok (.iconst 0, 1) := by decide +kernel
theorem dX8_need_44 : decode cX8_need 44 = .ok (.invokevirtual 105, 3) := by decide +kernel
theorem dX8_need_47 : decode cX8_need 47 = .ok (.ireturn, 1) := by decide +kernel
set_option maxRecDepth 20000 in
theorem ggX8_clash_X8_isOneOf : GoodIn wsX8_clash wsX8_isOneOf := goodIn_r _ [6] (by decide +kernel) (by decide +kernel)
set_option maxRecDepth 20000 in
theorem gX8_clash_X8_isOneOf : GoodIn wsX8_clash (va_wsS RX8 49 yX8_isOneOf wsX8_isOneOf) := goodIn_app (goodIn_of _ (by decide +kernel)) ggX8_clash_X8_isOneOf
set_option maxRecDepth 20000 in
theorem ggX8_clash_X6_isEmpty : GoodIn wsX8_clash wsX6_isEmpty := goodIn_r _ [10, 11, 123, 124, 125, 126, 127, 128, 129, 130] (by decide +kernel) (by decide +kernel)
set_option maxRecDepth 20000 in
theorem gX8_clash_X6_isEmpty_n124 : GoodIn wsX8_clash (wsX6_isEmpty) := ggX8_clash_X6_isEmpty
set_option maxRecDepth 20000 in
theorem ggX8_clash_X4_begin : GoodIn wsX8_clash wsX4_begin := goodIn_r _ [15, 16, 17, 18, 19, 20, 21, 22, 23, 24, 8, 25, 26, 11, 27, 4, 5, 6, 28, 29, 30, 31, 32, 33, 34, 35, 36, 37, 38, 39, 40, 41, 42, 43, 44, 45, 46, 47, 48, 49, 50, 51, 52, 53, 131, 132, 133, 134, 135, 136, 137, 138, 139, 140, 123, 124, 125, 126, 127, 128, 129, 130, 141, 142, 143, 144, 145, 146, 147, 148, 149] (by decide +kernel) (by decide +kernel)
set_option maxRecDepth 20000 in
theorem gX8_clash_X4_begin_n161 : GoodIn wsX8_clash (wsX4_begin) := ggX8_clash_X4_begin
set_option maxRecDepth 20000 in
theorem ggX8_clash_X4_pass : GoodIn wsX8_clash wsX4_pass := goodIn_r _ [56, 18, 57, 58, 59, 13, 60, 19, 61, 22, 62, 63, 64, 65, 20, 66, 67, 68, 69, 70, 71, 72, 73, 74, 75, 4, 5, 6, 76, 77, 78, 79, 80, 81, 82, 83, 21, 84, 85, 86, 87, 88, 23, 16, 89, 90, 91, 92, 93, 94, 95, 96, 97, 98, 99, 100, 101, 102, 17, 131, 132, 133, 134, 135, 136, 137, 138, 139, 140, 123, 124, 125, 126, 127, 128, 129, 130, 150, 151, 152] (by decide +kernel) (by decide +kernel)
set_option maxRecDepth 20000 in
theorem gX8_clash_X4_pass_n164 : GoodIn wsX8_clash (wsX4_pass) := ggX8_clash_X4_pass
set_option maxRecDepth 20000 in
theorem ggX8_clash_X4_bannedDeeds : GoodIn wsX8_clash wsX4_bannedDeeds := goodIn_r _ [105, 19, 106, 107, 108, 13, 109, 22, 97, 5, 98, 110, 111, 112, 113, 18, 66, 67, 68, 69, 70, 71, 72, 73, 74, 75, 4, 6, 131, 132, 133, 134, 135, 136, 137, 138, 139, 140, 123, 124, 125, 126, 127, 128, 129, 130, 150, 151, 152] (by decide +kernel) (by decide +kernel)
set_option maxRecDepth 20000 in
theorem gX8_clash_X4_bannedDeeds_n155 : GoodIn wsX8_clash (wsX4_bannedDeeds) := ggX8_clash_X4_bannedDeeds
set_option maxRecDepth 20000 in
theorem ggX8_clash_X6_firstUnmet : GoodIn wsX8_clash wsX6_firstUnmet := goodIn_r _ [116, 117, 66, 67, 68, 69, 70, 71, 72, 73, 74, 75, 4, 5, 6, 97, 98, 123, 124, 125, 126, 127, 128, 129, 130, 150, 151, 152] (by decide +kernel) (by decide +kernel)
set_option maxRecDepth 20000 in
theorem gX8_clash_X6_firstUnmet_n182 : GoodIn wsX8_clash (wsX6_firstUnmet) := ggX8_clash_X6_firstUnmet
theorem dX8_clash_0 : decode cX8_clash 0 = .ok (.iload_n 1, 1) := by decide +kernel
theorem dX8_clash_1 : decode cX8_clash 1 = .ok (.iconst 2, 1) := by decide +kernel
theorem dX8_clash_2 : decode cX8_clash 2 = .ok (.invokestatic 49, 3) := by decide +kernel
theorem dX8_clash_5 : decode cX8_clash 5 = .ok (.ifCond .ne 6, 3) := by decide +kernel
theorem dX8_clash_8 : decode cX8_clash 8 = .ok (.bipush (-2), 2) := by decide +kernel
theorem dX8_clash_10 : decode cX8_clash 10 = .ok (.ireturn, 1) := by decide +kernel
theorem dX8_clash_11 : decode cX8_clash 11 = .ok (.aload_n 0, 1) := by decide +kernel
theorem dX8_clash_12 : decode cX8_clash 12 = .ok (.getfield 27, 3) := by decide +kernel
theorem dX8_clash_15 : decode cX8_clash 15 = .ok (.invokevirtual 124, 3) := by decide +kernel
theorem dX8_clash_18 : decode cX8_clash 18 = .ok (.ifCond .eq 6, 3) := by decide +kernel
theorem dX8_clash_21 : decode cX8_clash 21 = .ok (.bipush (-3), 2) := by decide +kernel
theorem dX8_clash_23 : decode cX8_clash 23 = .ok (.ireturn, 1) := by decide +kernel
theorem dX8_clash_24 : decode cX8_clash 24 = .ok (.aload_n 0, 1) := by decide +kernel
theorem dX8_clash_25 : decode cX8_clash 25 = .ok (.getfield 36, 3) := by decide +kernel
theorem dX8_clash_28 : decode cX8_clash 28 = .ok (.aload_n 0, 1) := by decide +kernel
theorem dX8_clash_29 : decode cX8_clash 29 = .ok (.getfield 27, 3) := by decide +kernel
theorem dX8_clash_32 : decode cX8_clash 32 = .ok (.getfield 91, 3) := by decide +kernel
theorem dX8_clash_35 : decode cX8_clash 35 = .ok (.aload_n 0, 1) := by decide +kernel
theorem dX8_clash_36 : decode cX8_clash 36 = .ok (.getfield 27, 3) := by decide +kernel
theorem dX8_clash_39 : decode cX8_clash 39 = .ok (.getfield 128, 3) := by decide +kernel
theorem dX8_clash_42 : decode cX8_clash 42 = .ok (.invokevirtual 161, 3) := by decide +kernel
theorem dX8_clash_45 : decode cX8_clash 45 = .ok (.iconst 0, 1) := by decide +kernel
theorem dX8_clash_46 : decode cX8_clash 46 = .ok (.istore_n 2, 1) := by decide +kernel
theorem dX8_clash_47 : decode cX8_clash 47 = .ok (.iload_n 2, 1) := by decide +kernel
theorem dX8_clash_48 : decode cX8_clash 48 = .ok (.bipush 40, 2) := by decide +kernel
theorem dX8_clash_50 : decode cX8_clash 50 = .ok (.if_icmp .ge 47, 3) := by decide +kernel
theorem dX8_clash_53 : decode cX8_clash 53 = .ok (.aload_n 0, 1) := by decide +kernel
theorem dX8_clash_54 : decode cX8_clash 54 = .ok (.getfield 36, 3) := by decide +kernel
theorem dX8_clash_57 : decode cX8_clash 57 = .ok (.invokevirtual 164, 3) := by decide +kernel
theorem dX8_clash_60 : decode cX8_clash 60 = .ok (.aload_n 0, 1) := by decide +kernel
theorem dX8_clash_61 : decode cX8_clash 61 = .ok (.getfield 27, 3) := by decide +kernel
theorem dX8_clash_64 : decode cX8_clash 64 = .ok (.aload_n 0, 1) := by decide +kernel
theorem dX8_clash_65 : decode cX8_clash 65 = .ok (.getfield 36, 3) := by decide +kernel
theorem dX8_clash_68 : decode cX8_clash 68 = .ok (.invokevirtual 155, 3) := by decide +kernel
theorem dX8_clash_71 : decode cX8_clash 71 = .ok (.invokevirtual 182, 3) := by decide +kernel
theorem dX8_clash_74 : decode cX8_clash 74 = .ok (.istore_n 3, 1) := by decide +kernel
theorem dX8_clash_75 : decode cX8_clash 75 = .ok (.iload_n 3, 1) := by decide +kernel
theorem dX8_clash_76 : decode cX8_clash 76 = .ok (.bipush (-9), 2) := by decide +kernel
theorem dX8_clash_78 : decode cX8_clash 78 = .ok (.if_icmp .eq 13, 3) := by decide +kernel
theorem dX8_clash_81 : decode cX8_clash 81 = .ok (.iload_n 1, 1) := by decide +kernel
theorem dX8_clash_82 : decode cX8_clash 82 = .ok (.ifCond .ne 7, 3) := by decide +kernel
theorem dX8_clash_85 : decode cX8_clash 85 = .ok (.iload_n 2, 1) := by decide +kernel
theorem dX8_clash_86 : decode cX8_clash 86 = .ok (.goto 4, 3) := by decide +kernel
theorem dX8_clash_89 : decode cX8_clash 89 = .ok (.iload_n 3, 1) := by decide +kernel
theorem dX8_clash_90 : decode cX8_clash 90 = .ok (.ireturn, 1) := by decide +kernel
theorem dX8_clash_91 : decode cX8_clash 91 = .ok (.iinc 2 1, 3) := by decide +kernel
theorem dX8_clash_94 : decode cX8_clash 94 = .ok (.goto (-47), 3) := by decide +kernel
theorem dX8_clash_97 : decode cX8_clash 97 = .ok (.bipush (-9), 2) := by decide +kernel
theorem dX8_clash_99 : decode cX8_clash 99 = .ok (.ireturn, 1) := by decide +kernel
set_option maxRecDepth 20000 in
theorem ggX8_plan_X8_sheetAt : GoodIn wsX8_plan wsX8_sheetAt := goodIn_r _ [7, 8, 9, 10, 6, 11, 158, 159, 160, 161, 162] (by decide +kernel) (by decide +kernel)
set_option maxRecDepth 20000 in
theorem gX8_plan_X8_sheetAt : GoodIn wsX8_plan (wsV RX8 45 RX8 yX8_sheetAt wsX8_sheetAt) := goodIn_app (goodIn_of _ (by decide +kernel)) ggX8_plan_X8_sheetAt
set_option maxRecDepth 20000 in
theorem ggX8_plan_X8_isOneOf : GoodIn wsX8_plan wsX8_isOneOf := goodIn_r _ [11] (by decide +kernel) (by decide +kernel)
set_option maxRecDepth 20000 in
theorem gX8_plan_X8_isOneOf : GoodIn wsX8_plan (va_wsS RX8 49 yX8_isOneOf wsX8_isOneOf) := goodIn_app (goodIn_of _ (by decide +kernel)) ggX8_plan_X8_isOneOf
set_option maxRecDepth 20000 in
theorem ggX8_plan_X6_isEmpty : GoodIn wsX8_plan wsX6_isEmpty := goodIn_r _ [15, 16, 163, 164, 165, 166, 167, 168, 169, 170] (by decide +kernel) (by decide +kernel)
set_option maxRecDepth 20000 in
theorem gX8_plan_X6_isEmpty_n124 : GoodIn wsX8_plan (wsX6_isEmpty) := ggX8_plan_X6_isEmpty
set_option maxRecDepth 20000 in
theorem ggX8_plan_X5_faultOfTaking : GoodIn wsX8_plan wsX5_faultOfTaking := goodIn_r _ [20, 21, 22, 23, 24, 18, 25, 26, 27, 28, 29, 30, 171, 172, 173] (by decide +kernel) (by decide +kernel)
set_option maxRecDepth 20000 in
theorem gX8_plan_X5_faultOfTaking_n53 : GoodIn wsX8_plan (wsX5_faultOfTaking) := ggX8_plan_X5_faultOfTaking
set_option maxRecDepth 20000 in
theorem ggX8_plan_X8_faulted : GoodIn wsX8_plan wsX8_faulted := goodIn_r _ [34, 1, 158, 159, 160, 161, 162] (by decide +kernel) (by decide +kernel)
set_option maxRecDepth 20000 in
theorem gX8_plan_X8_faulted : GoodIn wsX8_plan (wsV RX8 57 RX8 yX8_faulted wsX8_faulted) := goodIn_app (goodIn_of _ (by decide +kernel)) ggX8_plan_X8_faulted
set_option maxRecDepth 20000 in
theorem ggX8_plan_X5_hasOnlyBelow : GoodIn wsX8_plan wsX5_hasOnlyBelow := goodIn_r _ [37, 38, 39, 40, 18, 41, 42, 43, 44, 45, 46, 30, 10, 6, 11, 171, 172, 173] (by decide +kernel) (by decide +kernel)
set_option maxRecDepth 20000 in
theorem gX8_plan_X5_hasOnlyBelow_n185 : GoodIn wsX8_plan (wsX5_hasOnlyBelow) := ggX8_plan_X5_hasOnlyBelow
set_option maxRecDepth 20000 in
theorem ggX8_plan_X8_firstBanned : GoodIn wsX8_plan wsX8_firstBanned := goodIn_r _ [50, 51, 2, 52, 53, 54, 55, 56, 57, 58, 59, 60, 61, 62, 63, 64, 13, 65, 66, 16, 67, 10, 6, 11, 68, 69, 70, 71, 72, 73, 74, 75, 76, 77, 78, 79, 80, 81, 82, 83, 84, 85, 86, 87, 88, 89, 90, 91, 92, 93, 94, 95, 96, 97, 98, 99, 100, 101, 102, 103, 104, 105, 106, 107, 108, 109, 110, 111, 112, 113, 114, 115, 116, 117, 118, 119, 120, 121, 122, 123, 124, 125, 126, 127, 128, 129, 130, 131, 132, 133, 134, 135, 136, 137, 138, 139, 140, 141, 142, 39, 18, 40, 41, 42, 43, 44, 45, 46, 30, 143, 144, 145, 146, 147, 148, 149, 150, 151, 152, 153, 154, 155, 156, 157, 158, 159, 160, 161, 162, 163, 164, 165, 166, 167, 168, 169, 170, 174, 175, 176, 177, 178, 179, 180, 181, 182, 183, 184, 185, 186, 187, 188, 189, 190, 191, 192, 193, 194, 195, 171, 172, 173] (by decide +kernel) (by decide +kernel)
set_option maxRecDepth 20000 in
theorem gX8_plan_X8_firstBanned : GoodIn wsX8_plan (wsV RX8 188 RX8 yX8_firstBanned wsX8_firstBanned) := goodIn_app (goodIn_of _ (by decide +kernel)) ggX8_plan_X8_firstBanned
theorem dX8_plan_0 : decode cX8_plan 0 = .ok (.aload_n 0, 1) := by decide +kernel
theorem dX8_plan_1 : decode cX8_plan 1 = .ok (.iconst 0, 1) := by decide +kernel
theorem dX8_plan_2 : decode cX8_plan 2 = .ok (.putfield 41, 3) := by decide +kernel
theorem dX8_plan_5 : decode cX8_plan 5 = .ok (.aload_n 0, 1) := by decide +kernel
theorem dX8_plan_6 : decode cX8_plan 6 = .ok (.iload_n 2, 1) := by decide +kernel
theorem dX8_plan_7 : decode cX8_plan 7 = .ok (.invokevirtual 45, 3) := by decide +kernel
theorem dX8_plan_10 : decode cX8_plan 10 = .ok (.astore 6, 2) := by decide +kernel
theorem dX8_plan_12 : decode cX8_plan 12 = .ok (.aload 6, 2) := by decide +kernel
theorem dX8_plan_14 : decode cX8_plan 14 = .ok (.ifnonnull 5, 3) := by decide +kernel
theorem dX8_plan_17 : decode cX8_plan 17 = .ok (.iconst (-1), 1) := by decide +kernel
theorem dX8_plan_18 : decode cX8_plan 18 = .ok (.ireturn, 1) := by decide +kernel
theorem dX8_plan_19 : decode cX8_plan 19 = .ok (.iload_n 3, 1) := by decide +kernel
theorem dX8_plan_20 : decode cX8_plan 20 = .ok (.iconst 3, 1) := by decide +kernel
theorem dX8_plan_21 : decode cX8_plan 21 = .ok (.invokestatic 49, 3) := by decide +kernel
theorem dX8_plan_24 : decode cX8_plan 24 = .ok (.ifCond .eq 12, 3) := by decide +kernel
theorem dX8_plan_27 : decode cX8_plan 27 = .ok (.iload_n 1, 1) := by decide +kernel
theorem dX8_plan_28 : decode cX8_plan 28 = .ok (.bipush 40, 2) := by decide +kernel
theorem dX8_plan_30 : decode cX8_plan 30 = .ok (.invokestatic 49, 3) := by decide +kernel
theorem dX8_plan_33 : decode cX8_plan 33 = .ok (.ifCond .ne 6, 3) := by decide +kernel
theorem dX8_plan_36 : decode cX8_plan 36 = .ok (.bipush (-2), 2) := by decide +kernel
theorem dX8_plan_38 : decode cX8_plan 38 = .ok (.ireturn, 1) := by decide +kernel
theorem dX8_plan_39 : decode cX8_plan 39 = .ok (.aload_n 0, 1) := by decide +kernel
theorem dX8_plan_40 : decode cX8_plan 40 = .ok (.getfield 27, 3) := by decide +kernel
theorem dX8_plan_43 : decode cX8_plan 43 = .ok (.invokevirtual 124, 3) := by decide +kernel
theorem dX8_plan_46 : decode cX8_plan 46 = .ok (.ifCond .eq 6, 3) := by decide +kernel
theorem dX8_plan_49 : decode cX8_plan 49 = .ok (.bipush (-3), 2) := by decide +kernel
theorem dX8_plan_51 : decode cX8_plan 51 = .ok (.ireturn, 1) := by decide +kernel
theorem dX8_plan_52 : decode cX8_plan 52 = .ok (.aload 6, 2) := by decide +kernel
theorem dX8_plan_54 : decode cX8_plan 54 = .ok (.iload_n 3, 1) := by decide +kernel
theorem dX8_plan_55 : decode cX8_plan 55 = .ok (.iload 4, 2) := by decide +kernel
theorem dX8_plan_57 : decode cX8_plan 57 = .ok (.iload 5, 2) := by decide +kernel
theorem dX8_plan_59 : decode cX8_plan 59 = .ok (.invokevirtual 53, 3) := by decide +kernel
theorem dX8_plan_62 : decode cX8_plan 62 = .ok (.istore 7, 2) := by decide +kernel
theorem dX8_plan_64 : decode cX8_plan 64 = .ok (.iload 7, 2) := by decide +kernel
theorem dX8_plan_66 : decode cX8_plan 66 = .ok (.ifCond .eq 10, 3) := by decide +kernel
theorem dX8_plan_69 : decode cX8_plan 69 = .ok (.aload_n 0, 1) := by decide +kernel
theorem dX8_plan_70 : decode cX8_plan 70 = .ok (.iload 7, 2) := by decide +kernel
theorem dX8_plan_72 : decode cX8_plan 72 = .ok (.invokevirtual 57, 3) := by decide +kernel
theorem dX8_plan_75 : decode cX8_plan 75 = .ok (.ireturn, 1) := by decide +kernel
theorem dX8_plan_76 : decode cX8_plan 76 = .ok (.iload 5, 2) := by decide +kernel
theorem dX8_plan_78 : decode cX8_plan 78 = .ok (.bipush 40, 2) := by decide +kernel
theorem dX8_plan_80 : decode cX8_plan 80 = .ok (.iload_n 1, 1) := by decide +kernel
theorem dX8_plan_81 : decode cX8_plan 81 = .ok (.isub, 1) := by decide +kernel
theorem dX8_plan_82 : decode cX8_plan 82 = .ok (.if_icmp .le 6, 3) := by decide +kernel
theorem dX8_plan_85 : decode cX8_plan 85 = .ok (.bipush (-2), 2) := by decide +kernel
theorem dX8_plan_87 : decode cX8_plan 87 = .ok (.ireturn, 1) := by decide +kernel
theorem dX8_plan_88 : decode cX8_plan 88 = .ok (.aload 6, 2) := by decide +kernel
theorem dX8_plan_90 : decode cX8_plan 90 = .ok (.bipush 6, 2) := by decide +kernel
theorem dX8_plan_92 : decode cX8_plan 92 = .ok (.iload 4, 2) := by decide +kernel
theorem dX8_plan_94 : decode cX8_plan 94 = .ok (.iload 5, 2) := by decide +kernel
theorem dX8_plan_96 : decode cX8_plan 96 = .ok (.invokevirtual 185, 3) := by decide +kernel
theorem dX8_plan_99 : decode cX8_plan 99 = .ok (.ifCond .ne 5, 3) := by decide +kernel
theorem dX8_plan_102 : decode cX8_plan 102 = .ok (.iconst (-1), 1) := by decide +kernel
theorem dX8_plan_103 : decode cX8_plan 103 = .ok (.ireturn, 1) := by decide +kernel
theorem dX8_plan_104 : decode cX8_plan 104 = .ok (.aload_n 0, 1) := by decide +kernel
theorem dX8_plan_105 : decode cX8_plan 105 = .ok (.iload_n 1, 1) := by decide +kernel
theorem dX8_plan_106 : decode cX8_plan 106 = .ok (.aload 6, 2) := by decide +kernel
theorem dX8_plan_108 : decode cX8_plan 108 = .ok (.iload 4, 2) := by decide +kernel
theorem dX8_plan_110 : decode cX8_plan 110 = .ok (.iload 5, 2) := by decide +kernel
theorem dX8_plan_112 : decode cX8_plan 112 = .ok (.invokevirtual 188, 3) := by decide +kernel
theorem dX8_plan_115 : decode cX8_plan 115 = .ok (.ireturn, 1) := by decide +kernel
set_option maxRecDepth 20000 in
theorem ggX8_reading_X6_person : GoodIn wsX8_reading wsX6_person := goodIn_r _ [5, 6, 7, 8, 9, 10, 39, 40, 41, 42, 43, 44, 45, 46] (by decide +kernel) (by decide +kernel)
set_option maxRecDepth 20000 in
theorem gX8_reading_X6_person_n72 : GoodIn wsX8_reading (wsX6_person) := ggX8_reading_X6_person
set_option maxRecDepth 20000 in
theorem ggX8_reading_X3_has : GoodIn wsX8_reading wsX3_has := goodIn_r _ [14, 15, 47, 48, 49] (by decide +kernel) (by decide +kernel)
set_option maxRecDepth 20000 in
theorem gX8_reading_X3_has_n131 : GoodIn wsX8_reading (wsX3_has) := ggX8_reading_X3_has
set_option maxRecDepth 20000 in
theorem ggX8_reading_X8_isOneOf : GoodIn wsX8_reading wsX8_isOneOf := goodIn_r _ [10] (by decide +kernel) (by decide +kernel)
set_option maxRecDepth 20000 in
theorem gX8_reading_X8_isOneOf : GoodIn wsX8_reading (va_wsS RX8 49 yX8_isOneOf wsX8_isOneOf) := goodIn_app (goodIn_of _ (by decide +kernel)) ggX8_reading_X8_isOneOf
set_option maxRecDepth 20000 in
theorem ggX8_reading_X8_refusal : GoodIn wsX8_reading wsX8_refusal := goodIn_r _ [20, 1, 21, 3, 22, 23, 6, 34, 35, 36, 37, 38, 39, 40, 41, 42, 43, 44, 45, 46] (by decide +kernel) (by decide +kernel)
set_option maxRecDepth 20000 in
theorem gX8_reading_X8_refusal : GoodIn wsX8_reading (wsV RX8 97 RX8 yX8_refusal wsX8_refusal) := goodIn_app (goodIn_of _ (by decide +kernel)) ggX8_reading_X8_refusal
set_option maxRecDepth 20000 in
theorem ggX8_reading_X3_add : GoodIn wsX8_reading wsX3_add := goodIn_r _ [26, 15, 27, 28, 29, 30, 12, 31, 32, 33, 11, 13, 14, 8, 9, 10, 47, 48, 49] (by decide +kernel) (by decide +kernel)
set_option maxRecDepth 20000 in
theorem gX8_reading_X3_add_n105 : GoodIn wsX8_reading (wsX3_add) := ggX8_reading_X3_add
theorem dX8_reading_0 : decode cX8_reading 0 = .ok (.aload_n 0, 1) := by decide +kernel
theorem dX8_reading_1 : decode cX8_reading 1 = .ok (.aload_n 0, 1) := by decide +kernel
theorem dX8_reading_2 : decode cX8_reading 2 = .ok (.getfield 27, 3) := by decide +kernel
theorem dX8_reading_5 : decode cX8_reading 5 = .ok (.iload_n 1, 1) := by decide +kernel
theorem dX8_reading_6 : decode cX8_reading 6 = .ok (.invokevirtual 72, 3) := by decide +kernel
theorem dX8_reading_9 : decode cX8_reading 9 = .ok (.ifnull 21, 3) := by decide +kernel
theorem dX8_reading_12 : decode cX8_reading 12 = .ok (.aload_n 0, 1) := by decide +kernel
theorem dX8_reading_13 : decode cX8_reading 13 = .ok (.getfield 27, 3) := by decide +kernel
theorem dX8_reading_16 : decode cX8_reading 16 = .ok (.getfield 101, 3) := by decide +kernel
theorem dX8_reading_19 : decode cX8_reading 19 = .ok (.iload_n 2, 1) := by decide +kernel
theorem dX8_reading_20 : decode cX8_reading 20 = .ok (.invokevirtual 131, 3) := by decide +kernel
theorem dX8_reading_23 : decode cX8_reading 23 = .ok (.ifCond .eq 7, 3) := by decide +kernel
theorem dX8_reading_26 : decode cX8_reading 26 = .ok (.iconst 1, 1) := by decide +kernel
theorem dX8_reading_27 : decode cX8_reading 27 = .ok (.goto 4, 3) := by decide +kernel
theorem dX8_reading_30 : decode cX8_reading 30 = .ok (.iconst 0, 1) := by decide +kernel
theorem dX8_reading_31 : decode cX8_reading 31 = .ok (.iload_n 3, 1) := by decide +kernel
theorem dX8_reading_32 : decode cX8_reading 32 = .ok (.bipush 40, 2) := by decide +kernel
theorem dX8_reading_34 : decode cX8_reading 34 = .ok (.invokestatic 49, 3) := by decide +kernel
theorem dX8_reading_37 : decode cX8_reading 37 = .ok (.invokevirtual 97, 3) := by decide +kernel
theorem dX8_reading_40 : decode cX8_reading 40 = .ok (.istore 5, 2) := by decide +kernel
theorem dX8_reading_42 : decode cX8_reading 42 = .ok (.iload 5, 2) := by decide +kernel
theorem dX8_reading_44 : decode cX8_reading 44 = .ok (.ifCond .eq 6, 3) := by decide +kernel
theorem dX8_reading_47 : decode cX8_reading 47 = .ok (.iload 5, 2) := by decide +kernel
theorem dX8_reading_49 : decode cX8_reading 49 = .ok (.ireturn, 1) := by decide +kernel
theorem dX8_reading_50 : decode cX8_reading 50 = .ok (.aload_n 0, 1) := by decide +kernel
theorem dX8_reading_51 : decode cX8_reading 51 = .ok (.getfield 27, 3) := by decide +kernel
theorem dX8_reading_54 : decode cX8_reading 54 = .ok (.getfield 114, 3) := by decide +kernel
theorem dX8_reading_57 : decode cX8_reading 57 = .ok (.iload_n 1, 1) := by decide +kernel
theorem dX8_reading_58 : decode cX8_reading 58 = .ok (.iload_n 3, 1) := by decide +kernel
theorem dX8_reading_59 : decode cX8_reading 59 = .ok (.iload_n 2, 1) := by decide +kernel
theorem dX8_reading_60 : decode cX8_reading 60 = .ok (.iload 4, 2) := by decide +kernel
theorem dX8_reading_62 : decode cX8_reading 62 = .ok (.ifCond .eq 7, 3) := by decide +kernel
theorem dX8_reading_65 : decode cX8_reading 65 = .ok (.iconst 1, 1) := by decide +kernel
theorem dX8_reading_66 : decode cX8_reading 66 = .ok (.goto 4, 3) := by decide +kernel
theorem dX8_reading_69 : decode cX8_reading 69 = .ok (.iconst 0, 1) := by decide +kernel
theorem dX8_reading_70 : decode cX8_reading 70 = .ok (.invokevirtual 105, 3) := by decide +kernel
theorem dX8_reading_73 : decode cX8_reading 73 = .ok (.ireturn, 1) := by decide +kernel
set_option maxRecDepth 20000 in
theorem ggX8_back_X3_takeBack : GoodIn wsX8_back wsX3_takeBack := goodIn_r _ [5, 6, 20, 21, 22] (by decide +kernel) (by decide +kernel)
set_option maxRecDepth 20000 in
theorem gX8_back_X3_takeBack_n111 : GoodIn wsX8_back (wsX3_takeBack) := ggX8_back_X3_takeBack
theorem dX8_back_0 : decode cX8_back 0 = .ok (.aload_n 0, 1) := by decide +kernel
theorem dX8_back_1 : decode cX8_back 1 = .ok (.getfield 27, 3) := by decide +kernel
theorem dX8_back_4 : decode cX8_back 4 = .ok (.getfield 114, 3) := by decide +kernel
theorem dX8_back_7 : decode cX8_back 7 = .ok (.iload_n 1, 1) := by decide +kernel
theorem dX8_back_8 : decode cX8_back 8 = .ok (.invokevirtual 111, 3) := by decide +kernel
theorem dX8_back_11 : decode cX8_back 11 = .ok (.ireturn, 1) := by decide +kernel
set_option maxRecDepth 20000 in
theorem ggX8_comes_X3_has : GoodIn wsX8_comes wsX3_has := goodIn_r _ [5, 6, 127, 128, 129] (by decide +kernel) (by decide +kernel)
set_option maxRecDepth 20000 in
theorem gX8_comes_X3_has_n131 : GoodIn wsX8_comes (wsX3_has) := ggX8_comes_X3_has
set_option maxRecDepth 20000 in
theorem ggX8_comes_X3_at : GoodIn wsX8_comes wsX3_at := goodIn_r _ [9, 10, 11, 2, 4, 3, 5, 6, 12, 13, 14, 127, 128, 129] (by decide +kernel) (by decide +kernel)
set_option maxRecDepth 20000 in
theorem gX8_comes_X3_at_n135 : GoodIn wsX8_comes (wsX3_at) := ggX8_comes_X3_at
set_option maxRecDepth 20000 in
theorem ggX8_comes_X3_set : GoodIn wsX8_comes wsX3_set := goodIn_r _ [17, 10, 11, 2, 4, 3, 5, 6, 12, 13, 14, 127, 128, 129] (by decide +kernel) (by decide +kernel)
set_option maxRecDepth 20000 in
theorem gX8_comes_X3_set_n139 : GoodIn wsX8_comes (wsX3_set) := ggX8_comes_X3_set
set_option maxRecDepth 20000 in
theorem ggX8_comes_X8_areReadingsSo : GoodIn wsX8_comes wsX8_areReadingsSo := goodIn_r _ [21, 22, 23, 24, 25, 26, 27, 28, 29, 30, 31, 32, 33, 34, 35, 36, 37, 38, 39, 40, 12, 13, 14, 41, 42, 43, 44, 45, 46, 47, 48, 49, 50, 51, 52, 53, 54, 55, 56, 57, 58, 59, 60, 61, 62, 63, 64, 65, 66, 67, 68, 69, 70, 71, 72, 73, 74, 75, 76, 77, 78, 7, 3, 8, 9, 10, 11, 2, 4, 5, 6, 79, 80, 81, 82, 83, 84, 85, 86, 87, 88, 89, 90, 91, 92, 93, 94, 95, 96, 97, 98, 99, 100, 101, 102, 103, 104, 105, 106, 107, 108, 109, 1, 110, 111, 112, 113, 114, 115, 116, 117, 118, 130, 131, 132, 133, 134, 135, 136, 137, 138, 139, 119, 120, 121, 122, 123, 124, 125, 126, 140, 141, 142, 143, 144, 145, 146, 147, 148, 127, 128, 129] (by decide +kernel) (by decide +kernel)
set_option maxRecDepth 20000 in
theorem gX8_comes_X8_areReadingsSo : GoodIn wsX8_comes (wsV RX8 192 RX8 yX8_areReadingsSo wsX8_areReadingsSo) := goodIn_app (goodIn_of _ (by decide +kernel)) ggX8_comes_X8_areReadingsSo
theorem dX8_comes_0 : decode cX8_comes 0 = .ok (.aload_n 0, 1) := by decide +kernel
theorem dX8_comes_1 : decode cX8_comes 1 = .ok (.getfield 27, 3) := by decide +kernel
theorem dX8_comes_4 : decode cX8_comes 4 = .ok (.getfield 101, 3) := by decide +kernel
theorem dX8_comes_7 : decode cX8_comes 7 = .ok (.iload_n 1, 1) := by decide +kernel
theorem dX8_comes_8 : decode cX8_comes 8 = .ok (.invokevirtual 131, 3) := by decide +kernel
theorem dX8_comes_11 : decode cX8_comes 11 = .ok (.ifCond .ne 5, 3) := by decide +kernel
theorem dX8_comes_14 : decode cX8_comes 14 = .ok (.iconst (-1), 1) := by decide +kernel
theorem dX8_comes_15 : decode cX8_comes 15 = .ok (.ireturn, 1) := by decide +kernel
theorem dX8_comes_16 : decode cX8_comes 16 = .ok (.aload_n 0, 1) := by decide +kernel
theorem dX8_comes_17 : decode cX8_comes 17 = .ok (.getfield 27, 3) := by decide +kernel
theorem dX8_comes_20 : decode cX8_comes 20 = .ok (.getfield 101, 3) := by decide +kernel
theorem dX8_comes_23 : decode cX8_comes 23 = .ok (.iload_n 1, 1) := by decide +kernel
theorem dX8_comes_24 : decode cX8_comes 24 = .ok (.iconst 0, 1) := by decide +kernel
theorem dX8_comes_25 : decode cX8_comes 25 = .ok (.invokevirtual 135, 3) := by decide +kernel
theorem dX8_comes_28 : decode cX8_comes 28 = .ok (.istore_n 2, 1) := by decide +kernel
theorem dX8_comes_29 : decode cX8_comes 29 = .ok (.iconst 0, 1) := by decide +kernel
theorem dX8_comes_30 : decode cX8_comes 30 = .ok (.istore_n 3, 1) := by decide +kernel
theorem dX8_comes_31 : decode cX8_comes 31 = .ok (.iconst 0, 1) := by decide +kernel
theorem dX8_comes_32 : decode cX8_comes 32 = .ok (.istore 4, 2) := by decide +kernel
theorem dX8_comes_34 : decode cX8_comes 34 = .ok (.iload 4, 2) := by decide +kernel
theorem dX8_comes_36 : decode cX8_comes 36 = .ok (.aload_n 0, 1) := by decide +kernel
theorem dX8_comes_37 : decode cX8_comes 37 = .ok (.getfield 27, 3) := by decide +kernel
theorem dX8_comes_40 : decode cX8_comes 40 = .ok (.getfield 69, 3) := by decide +kernel
theorem dX8_comes_43 : decode cX8_comes 43 = .ok (.if_icmp .ge 51, 3) := by decide +kernel
theorem dX8_comes_46 : decode cX8_comes 46 = .ok (.aload_n 0, 1) := by decide +kernel
theorem dX8_comes_47 : decode cX8_comes 47 = .ok (.getfield 27, 3) := by decide +kernel
theorem dX8_comes_50 : decode cX8_comes 50 = .ok (.getfield 101, 3) := by decide +kernel
theorem dX8_comes_53 : decode cX8_comes 53 = .ok (.iload_n 1, 1) := by decide +kernel
theorem dX8_comes_54 : decode cX8_comes 54 = .ok (.iconst 0, 1) := by decide +kernel
theorem dX8_comes_55 : decode cX8_comes 55 = .ok (.iload 4, 2) := by decide +kernel
theorem dX8_comes_57 : decode cX8_comes 57 = .ok (.invokevirtual 139, 3) := by decide +kernel
theorem dX8_comes_60 : decode cX8_comes 60 = .ok (.aload_n 0, 1) := by decide +kernel
theorem dX8_comes_61 : decode cX8_comes 61 = .ok (.aload_n 0, 1) := by decide +kernel
theorem dX8_comes_62 : decode cX8_comes 62 = .ok (.getfield 27, 3) := by decide +kernel
theorem dX8_comes_65 : decode cX8_comes 65 = .ok (.getfield 91, 3) := by decide +kernel
theorem dX8_comes_68 : decode cX8_comes 68 = .ok (.aload_n 0, 1) := by decide +kernel
theorem dX8_comes_69 : decode cX8_comes 69 = .ok (.getfield 27, 3) := by decide +kernel
theorem dX8_comes_72 : decode cX8_comes 72 = .ok (.getfield 128, 3) := by decide +kernel
theorem dX8_comes_75 : decode cX8_comes 75 = .ok (.invokevirtual 192, 3) := by decide +kernel
theorem dX8_comes_78 : decode cX8_comes 78 = .ok (.ifCond .eq 10, 3) := by decide +kernel
theorem dX8_comes_81 : decode cX8_comes 81 = .ok (.iload_n 3, 1) := by decide +kernel
theorem dX8_comes_82 : decode cX8_comes 82 = .ok (.iconst 1, 1) := by decide +kernel
theorem dX8_comes_83 : decode cX8_comes 83 = .ok (.iload 4, 2) := by decide +kernel
theorem dX8_comes_85 : decode cX8_comes 85 = .ok (.ishl, 1) := by decide +kernel
theorem dX8_comes_86 : decode cX8_comes 86 = .ok (.ior, 1) := by decide +kernel
theorem dX8_comes_87 : decode cX8_comes 87 = .ok (.istore_n 3, 1) := by decide +kernel
theorem dX8_comes_88 : decode cX8_comes 88 = .ok (.iinc 4 1, 3) := by decide +kernel
theorem dX8_comes_91 : decode cX8_comes 91 = .ok (.goto (-57), 3) := by decide +kernel
theorem dX8_comes_94 : decode cX8_comes 94 = .ok (.aload_n 0, 1) := by decide +kernel
theorem dX8_comes_95 : decode cX8_comes 95 = .ok (.getfield 27, 3) := by decide +kernel
theorem dX8_comes_98 : decode cX8_comes 98 = .ok (.getfield 101, 3) := by decide +kernel
theorem dX8_comes_101 : decode cX8_comes 101 = .ok (.iload_n 1, 1) := by decide +kernel
theorem dX8_comes_102 : decode cX8_comes 102 = .ok (.iconst 0, 1) := by decide +kernel
theorem dX8_comes_103 : decode cX8_comes 103 = .ok (.iload_n 2, 1) := by decide +kernel
theorem dX8_comes_104 : decode cX8_comes 104 = .ok (.invokevirtual 139, 3) := by decide +kernel
theorem dX8_comes_107 : decode cX8_comes 107 = .ok (.iload_n 3, 1) := by decide +kernel
theorem dX8_comes_108 : decode cX8_comes 108 = .ok (.ireturn, 1) := by decide +kernel
set_option maxRecDepth 20000 in
theorem ggX8_paid_X6_isEmpty : GoodIn wsX8_paid wsX6_isEmpty := goodIn_r _ [5, 6, 119, 120, 121, 122, 123, 124, 125, 126] (by decide +kernel) (by decide +kernel)
set_option maxRecDepth 20000 in
theorem gX8_paid_X6_isEmpty_n124 : GoodIn wsX8_paid (wsX6_isEmpty) := ggX8_paid_X6_isEmpty
set_option maxRecDepth 20000 in
theorem ggX8_paid_X8_areReadingsSo : GoodIn wsX8_paid wsX8_areReadingsSo := goodIn_r _ [11, 12, 13, 14, 15, 16, 17, 18, 19, 20, 21, 22, 23, 24, 25, 3, 26, 27, 6, 28, 29, 10, 30, 31, 32, 33, 34, 35, 36, 37, 38, 39, 40, 41, 42, 43, 44, 45, 46, 47, 48, 49, 50, 51, 52, 53, 54, 55, 56, 57, 58, 59, 60, 61, 62, 63, 64, 65, 66, 67, 68, 69, 70, 71, 72, 73, 74, 75, 76, 77, 78, 79, 80, 81, 82, 83, 84, 85, 86, 87, 88, 89, 90, 91, 92, 93, 94, 95, 96, 97, 98, 99, 100, 101, 102, 103, 104, 105, 106, 107, 108, 109, 1, 110, 111, 112, 113, 114, 115, 116, 117, 118, 127, 128, 129, 130, 131, 132, 133, 134, 135, 136, 119, 120, 121, 122, 123, 124, 125, 126, 137, 138, 139, 140, 141, 142, 143, 144, 145, 146, 147, 148] (by decide +kernel) (by decide +kernel)
set_option maxRecDepth 20000 in
theorem gX8_paid_X8_areReadingsSo : GoodIn wsX8_paid (wsV RX8 192 RX8 yX8_areReadingsSo wsX8_areReadingsSo) := goodIn_app (goodIn_of _ (by decide +kernel)) ggX8_paid_X8_areReadingsSo
theorem dX8_paid_0 : decode cX8_paid 0 = .ok (.aload_n 0, 1) := by decide +kernel
theorem dX8_paid_1 : decode cX8_paid 1 = .ok (.getfield 27, 3) := by decide +kernel
theorem dX8_paid_4 : decode cX8_paid 4 = .ok (.invokevirtual 124, 3) := by decide +kernel
theorem dX8_paid_7 : decode cX8_paid 7 = .ok (.ifCond .eq 6, 3) := by decide +kernel
theorem dX8_paid_10 : decode cX8_paid 10 = .ok (.bipush (-3), 2) := by decide +kernel
theorem dX8_paid_12 : decode cX8_paid 12 = .ok (.ireturn, 1) := by decide +kernel
theorem dX8_paid_13 : decode cX8_paid 13 = .ok (.iconst 0, 1) := by decide +kernel
theorem dX8_paid_14 : decode cX8_paid 14 = .ok (.istore_n 1, 1) := by decide +kernel
theorem dX8_paid_15 : decode cX8_paid 15 = .ok (.iconst 0, 1) := by decide +kernel
theorem dX8_paid_16 : decode cX8_paid 16 = .ok (.istore_n 2, 1) := by decide +kernel
theorem dX8_paid_17 : decode cX8_paid 17 = .ok (.iload_n 2, 1) := by decide +kernel
theorem dX8_paid_18 : decode cX8_paid 18 = .ok (.aload_n 0, 1) := by decide +kernel
theorem dX8_paid_19 : decode cX8_paid 19 = .ok (.getfield 27, 3) := by decide +kernel
theorem dX8_paid_22 : decode cX8_paid 22 = .ok (.getfield 69, 3) := by decide +kernel
theorem dX8_paid_25 : decode cX8_paid 25 = .ok (.if_icmp .ge 40, 3) := by decide +kernel
theorem dX8_paid_28 : decode cX8_paid 28 = .ok (.aload_n 0, 1) := by decide +kernel
theorem dX8_paid_29 : decode cX8_paid 29 = .ok (.aload_n 0, 1) := by decide +kernel
theorem dX8_paid_30 : decode cX8_paid 30 = .ok (.getfield 27, 3) := by decide +kernel
theorem dX8_paid_33 : decode cX8_paid 33 = .ok (.getfield 91, 3) := by decide +kernel
theorem dX8_paid_36 : decode cX8_paid 36 = .ok (.iconst 1, 1) := by decide +kernel
theorem dX8_paid_37 : decode cX8_paid 37 = .ok (.iload_n 2, 1) := by decide +kernel
theorem dX8_paid_38 : decode cX8_paid 38 = .ok (.ishl, 1) := by decide +kernel
theorem dX8_paid_39 : decode cX8_paid 39 = .ok (.ior, 1) := by decide +kernel
theorem dX8_paid_40 : decode cX8_paid 40 = .ok (.aload_n 0, 1) := by decide +kernel
theorem dX8_paid_41 : decode cX8_paid 41 = .ok (.getfield 27, 3) := by decide +kernel
theorem dX8_paid_44 : decode cX8_paid 44 = .ok (.getfield 128, 3) := by decide +kernel
theorem dX8_paid_47 : decode cX8_paid 47 = .ok (.invokevirtual 192, 3) := by decide +kernel
theorem dX8_paid_50 : decode cX8_paid 50 = .ok (.ifCond .eq 9, 3) := by decide +kernel
theorem dX8_paid_53 : decode cX8_paid 53 = .ok (.iload_n 1, 1) := by decide +kernel
theorem dX8_paid_54 : decode cX8_paid 54 = .ok (.iconst 1, 1) := by decide +kernel
theorem dX8_paid_55 : decode cX8_paid 55 = .ok (.iload_n 2, 1) := by decide +kernel
theorem dX8_paid_56 : decode cX8_paid 56 = .ok (.ishl, 1) := by decide +kernel
theorem dX8_paid_57 : decode cX8_paid 57 = .ok (.ior, 1) := by decide +kernel
theorem dX8_paid_58 : decode cX8_paid 58 = .ok (.istore_n 1, 1) := by decide +kernel
theorem dX8_paid_59 : decode cX8_paid 59 = .ok (.iinc 2 1, 3) := by decide +kernel
theorem dX8_paid_62 : decode cX8_paid 62 = .ok (.goto (-45), 3) := by decide +kernel
theorem dX8_paid_65 : decode cX8_paid 65 = .ok (.iload_n 1, 1) := by decide +kernel
theorem dX8_paid_66 : decode cX8_paid 66 = .ok (.ireturn, 1) := by decide +kernel
set_option maxRecDepth 20000 in
theorem ggX8_laws_X6_isEmpty : GoodIn wsX8_laws wsX6_isEmpty := goodIn_r _ [5, 6, 119, 120, 121, 122, 123, 124, 125, 126] (by decide +kernel) (by decide +kernel)
set_option maxRecDepth 20000 in
theorem gX8_laws_X6_isEmpty_n124 : GoodIn wsX8_laws (wsX6_isEmpty) := ggX8_laws_X6_isEmpty
set_option maxRecDepth 20000 in
theorem ggX8_laws_X8_areReadingsSo : GoodIn wsX8_laws wsX8_areReadingsSo := goodIn_r _ [11, 12, 13, 14, 15, 16, 17, 18, 19, 20, 21, 22, 23, 24, 25, 3, 26, 27, 6, 28, 29, 10, 30, 31, 32, 33, 34, 35, 36, 37, 38, 39, 40, 41, 42, 43, 44, 45, 46, 47, 48, 49, 50, 51, 52, 53, 54, 55, 56, 57, 58, 59, 60, 61, 62, 63, 64, 65, 66, 67, 68, 69, 70, 71, 72, 73, 74, 75, 76, 77, 78, 79, 80, 81, 82, 83, 84, 85, 86, 87, 88, 89, 90, 91, 92, 93, 94, 95, 96, 97, 98, 99, 100, 101, 102, 103, 104, 105, 106, 107, 108, 109, 1, 110, 111, 112, 113, 114, 115, 116, 117, 118, 127, 128, 129, 130, 131, 132, 133, 134, 135, 136, 119, 120, 121, 122, 123, 124, 125, 126, 137, 138, 139, 140, 141, 142, 143, 144, 145, 146, 147, 148] (by decide +kernel) (by decide +kernel)
set_option maxRecDepth 20000 in
theorem gX8_laws_X8_areReadingsSo : GoodIn wsX8_laws (wsV RX8 192 RX8 yX8_areReadingsSo wsX8_areReadingsSo) := goodIn_app (goodIn_of _ (by decide +kernel)) ggX8_laws_X8_areReadingsSo
theorem dX8_laws_0 : decode cX8_laws 0 = .ok (.aload_n 0, 1) := by decide +kernel
theorem dX8_laws_1 : decode cX8_laws 1 = .ok (.getfield 27, 3) := by decide +kernel
theorem dX8_laws_4 : decode cX8_laws 4 = .ok (.invokevirtual 124, 3) := by decide +kernel
theorem dX8_laws_7 : decode cX8_laws 7 = .ok (.ifCond .eq 6, 3) := by decide +kernel
theorem dX8_laws_10 : decode cX8_laws 10 = .ok (.bipush (-3), 2) := by decide +kernel
theorem dX8_laws_12 : decode cX8_laws 12 = .ok (.ireturn, 1) := by decide +kernel
theorem dX8_laws_13 : decode cX8_laws 13 = .ok (.iconst 0, 1) := by decide +kernel
theorem dX8_laws_14 : decode cX8_laws 14 = .ok (.istore_n 1, 1) := by decide +kernel
theorem dX8_laws_15 : decode cX8_laws 15 = .ok (.iconst 0, 1) := by decide +kernel
theorem dX8_laws_16 : decode cX8_laws 16 = .ok (.istore_n 2, 1) := by decide +kernel
theorem dX8_laws_17 : decode cX8_laws 17 = .ok (.iload_n 2, 1) := by decide +kernel
theorem dX8_laws_18 : decode cX8_laws 18 = .ok (.iconst 3, 1) := by decide +kernel
theorem dX8_laws_19 : decode cX8_laws 19 = .ok (.if_icmp .ge 30, 3) := by decide +kernel
theorem dX8_laws_22 : decode cX8_laws 22 = .ok (.aload_n 0, 1) := by decide +kernel
theorem dX8_laws_23 : decode cX8_laws 23 = .ok (.aload_n 0, 1) := by decide +kernel
theorem dX8_laws_24 : decode cX8_laws 24 = .ok (.getfield 27, 3) := by decide +kernel
theorem dX8_laws_27 : decode cX8_laws 27 = .ok (.getfield 91, 3) := by decide +kernel
theorem dX8_laws_30 : decode cX8_laws 30 = .ok (.iload_n 2, 1) := by decide +kernel
theorem dX8_laws_31 : decode cX8_laws 31 = .ok (.invokevirtual 192, 3) := by decide +kernel
theorem dX8_laws_34 : decode cX8_laws 34 = .ok (.ifCond .eq 9, 3) := by decide +kernel
theorem dX8_laws_37 : decode cX8_laws 37 = .ok (.iload_n 1, 1) := by decide +kernel
theorem dX8_laws_38 : decode cX8_laws 38 = .ok (.iconst 1, 1) := by decide +kernel
theorem dX8_laws_39 : decode cX8_laws 39 = .ok (.iload_n 2, 1) := by decide +kernel
theorem dX8_laws_40 : decode cX8_laws 40 = .ok (.ishl, 1) := by decide +kernel
theorem dX8_laws_41 : decode cX8_laws 41 = .ok (.ior, 1) := by decide +kernel
theorem dX8_laws_42 : decode cX8_laws 42 = .ok (.istore_n 1, 1) := by decide +kernel
theorem dX8_laws_43 : decode cX8_laws 43 = .ok (.iinc 2 1, 3) := by decide +kernel
theorem dX8_laws_46 : decode cX8_laws 46 = .ok (.goto (-29), 3) := by decide +kernel
theorem dX8_laws_49 : decode cX8_laws 49 = .ok (.iload_n 1, 1) := by decide +kernel
theorem dX8_laws_50 : decode cX8_laws 50 = .ok (.ireturn, 1) := by decide +kernel
set_option maxRecDepth 20000 in
theorem ggX8_odds_X8_isOneOf : GoodIn wsX8_odds wsX8_isOneOf := goodIn_r _ [6] (by decide +kernel) (by decide +kernel)
set_option maxRecDepth 20000 in
theorem gX8_odds_X8_isOneOf : GoodIn wsX8_odds (va_wsS RX8 49 yX8_isOneOf wsX8_isOneOf) := goodIn_app (goodIn_of _ (by decide +kernel)) ggX8_odds_X8_isOneOf
set_option maxRecDepth 20000 in
theorem ggX8_odds_X8_refusal : GoodIn wsX8_odds wsX8_refusal := goodIn_r _ [10, 2, 11, 12, 13, 14, 15, 131, 132, 133, 134, 135, 136, 137, 138, 139, 140, 141, 142, 143] (by decide +kernel) (by decide +kernel)
set_option maxRecDepth 20000 in
theorem gX8_odds_X8_refusal : GoodIn wsX8_odds (wsV RX8 97 RX8 yX8_refusal wsX8_refusal) := goodIn_app (goodIn_of _ (by decide +kernel)) ggX8_odds_X8_refusal
set_option maxRecDepth 20000 in
theorem ggX8_odds_X8_isBannedIfPaid : GoodIn wsX8_odds wsX8_isBannedIfPaid := goodIn_r _ [19, 20, 21, 22, 23, 5, 24, 2, 25, 26, 27, 28, 29, 30, 31, 32, 33, 34, 35, 36, 37, 12, 38, 39, 15, 40, 4, 6, 41, 42, 43, 44, 45, 46, 47, 48, 49, 50, 51, 52, 53, 54, 55, 56, 57, 58, 59, 60, 61, 62, 63, 64, 65, 66, 67, 68, 69, 70, 71, 72, 73, 74, 75, 76, 77, 78, 79, 80, 81, 82, 83, 84, 85, 86, 87, 88, 89, 90, 91, 92, 93, 94, 95, 96, 97, 98, 99, 100, 101, 102, 103, 104, 105, 106, 107, 108, 109, 110, 111, 112, 113, 114, 115, 116, 117, 118, 119, 120, 121, 122, 123, 124, 125, 126, 127, 128, 129, 130, 131, 132, 133, 134, 135, 136, 137, 138, 139, 140, 141, 142, 143, 144, 145, 146, 147, 148, 149, 150, 151, 152, 153, 154, 155, 156, 157, 158, 159, 160, 161, 162, 163, 164, 165] (by decide +kernel) (by decide +kernel)
set_option maxRecDepth 20000 in
theorem gX8_odds_X8_isBannedIfPaid : GoodIn wsX8_odds (wsV RX8 175 RX8 yX8_isBannedIfPaid wsX8_isBannedIfPaid) := goodIn_app (goodIn_of _ (by decide +kernel)) ggX8_odds_X8_isBannedIfPaid
theorem dX8_odds_0 : decode cX8_odds 0 = .ok (.aload_n 0, 1) := by decide +kernel
theorem dX8_odds_1 : decode cX8_odds 1 = .ok (.iload_n 1, 1) := by decide +kernel
theorem dX8_odds_2 : decode cX8_odds 2 = .ok (.bipush 6, 2) := by decide +kernel
theorem dX8_odds_4 : decode cX8_odds 4 = .ok (.invokestatic 49, 3) := by decide +kernel
theorem dX8_odds_7 : decode cX8_odds 7 = .ok (.iload_n 2, 1) := by decide +kernel
theorem dX8_odds_8 : decode cX8_odds 8 = .ok (.bipush 40, 2) := by decide +kernel
theorem dX8_odds_10 : decode cX8_odds 10 = .ok (.invokestatic 49, 3) := by decide +kernel
theorem dX8_odds_13 : decode cX8_odds 13 = .ok (.ifCond .eq 15, 3) := by decide +kernel
theorem dX8_odds_16 : decode cX8_odds 16 = .ok (.iload_n 3, 1) := by decide +kernel
theorem dX8_odds_17 : decode cX8_odds 17 = .ok (.iconst 2, 1) := by decide +kernel
theorem dX8_odds_18 : decode cX8_odds 18 = .ok (.invokestatic 49, 3) := by decide +kernel
theorem dX8_odds_21 : decode cX8_odds 21 = .ok (.ifCond .eq 7, 3) := by decide +kernel
theorem dX8_odds_24 : decode cX8_odds 24 = .ok (.iconst 1, 1) := by decide +kernel
theorem dX8_odds_25 : decode cX8_odds 25 = .ok (.goto 4, 3) := by decide +kernel
theorem dX8_odds_28 : decode cX8_odds 28 = .ok (.iconst 0, 1) := by decide +kernel
theorem dX8_odds_29 : decode cX8_odds 29 = .ok (.invokevirtual 97, 3) := by decide +kernel
theorem dX8_odds_32 : decode cX8_odds 32 = .ok (.ifCond .eq 7, 3) := by decide +kernel
theorem dX8_odds_35 : decode cX8_odds 35 = .ok (.ldc2_w 195, 3) := by decide +kernel
theorem dX8_odds_38 : decode cX8_odds 38 = .ok (.lreturn, 1) := by decide +kernel
theorem dX8_odds_39 : decode cX8_odds 39 = .ok (.iconst 1, 1) := by decide +kernel
theorem dX8_odds_40 : decode cX8_odds 40 = .ok (.aload_n 0, 1) := by decide +kernel
theorem dX8_odds_41 : decode cX8_odds 41 = .ok (.getfield 27, 3) := by decide +kernel
theorem dX8_odds_44 : decode cX8_odds 44 = .ok (.getfield 69, 3) := by decide +kernel
theorem dX8_odds_47 : decode cX8_odds 47 = .ok (.ishl, 1) := by decide +kernel
theorem dX8_odds_48 : decode cX8_odds 48 = .ok (.istore 4, 2) := by decide +kernel
theorem dX8_odds_50 : decode cX8_odds 50 = .ok (.iconst 0, 1) := by decide +kernel
theorem dX8_odds_51 : decode cX8_odds 51 = .ok (.istore 5, 2) := by decide +kernel
theorem dX8_odds_53 : decode cX8_odds 53 = .ok (.iconst 0, 1) := by decide +kernel
theorem dX8_odds_54 : decode cX8_odds 54 = .ok (.istore 6, 2) := by decide +kernel
theorem dX8_odds_56 : decode cX8_odds 56 = .ok (.iload 6, 2) := by decide +kernel
theorem dX8_odds_58 : decode cX8_odds 58 = .ok (.iload 4, 2) := by decide +kernel
theorem dX8_odds_60 : decode cX8_odds 60 = .ok (.if_icmp .ge 23, 3) := by decide +kernel
theorem dX8_odds_63 : decode cX8_odds 63 = .ok (.aload_n 0, 1) := by decide +kernel
theorem dX8_odds_64 : decode cX8_odds 64 = .ok (.iload_n 1, 1) := by decide +kernel
theorem dX8_odds_65 : decode cX8_odds 65 = .ok (.iload_n 2, 1) := by decide +kernel
theorem dX8_odds_66 : decode cX8_odds 66 = .ok (.iload 6, 2) := by decide +kernel
theorem dX8_odds_68 : decode cX8_odds 68 = .ok (.invokevirtual 175, 3) := by decide +kernel
theorem dX8_odds_71 : decode cX8_odds 71 = .ok (.ifCond .ne 6, 3) := by decide +kernel
theorem dX8_odds_74 : decode cX8_odds 74 = .ok (.iinc 5 1, 3) := by decide +kernel
theorem dX8_odds_77 : decode cX8_odds 77 = .ok (.iinc 6 1, 3) := by decide +kernel
theorem dX8_odds_80 : decode cX8_odds 80 = .ok (.goto (-24), 3) := by decide +kernel
theorem dX8_odds_83 : decode cX8_odds 83 = .ok (.iload 4, 2) := by decide +kernel
theorem dX8_odds_85 : decode cX8_odds 85 = .ok (.istore 6, 2) := by decide +kernel
theorem dX8_odds_87 : decode cX8_odds 87 = .ok (.iload 6, 2) := by decide +kernel
theorem dX8_odds_89 : decode cX8_odds 89 = .ok (.iconst 1, 1) := by decide +kernel
theorem dX8_odds_90 : decode cX8_odds 90 = .ok (.if_icmp .le 25, 3) := by decide +kernel
theorem dX8_odds_93 : decode cX8_odds 93 = .ok (.iload 5, 2) := by decide +kernel
theorem dX8_odds_95 : decode cX8_odds 95 = .ok (.iconst 2, 1) := by decide +kernel
theorem dX8_odds_96 : decode cX8_odds 96 = .ok (.irem, 1) := by decide +kernel
theorem dX8_odds_97 : decode cX8_odds 97 = .ok (.ifCond .ne 18, 3) := by decide +kernel
theorem dX8_odds_100 : decode cX8_odds 100 = .ok (.iload 5, 2) := by decide +kernel
theorem dX8_odds_102 : decode cX8_odds 102 = .ok (.iconst 2, 1) := by decide +kernel
theorem dX8_odds_103 : decode cX8_odds 103 = .ok (.idiv, 1) := by decide +kernel
theorem dX8_odds_104 : decode cX8_odds 104 = .ok (.istore 5, 2) := by decide +kernel
theorem dX8_odds_106 : decode cX8_odds 106 = .ok (.iload 6, 2) := by decide +kernel
theorem dX8_odds_108 : decode cX8_odds 108 = .ok (.iconst 2, 1) := by decide +kernel
theorem dX8_odds_109 : decode cX8_odds 109 = .ok (.idiv, 1) := by decide +kernel
theorem dX8_odds_110 : decode cX8_odds 110 = .ok (.istore 6, 2) := by decide +kernel
theorem dX8_odds_112 : decode cX8_odds 112 = .ok (.goto (-25), 3) := by decide +kernel
theorem dX8_odds_115 : decode cX8_odds 115 = .ok (.iload_n 3, 1) := by decide +kernel
theorem dX8_odds_116 : decode cX8_odds 116 = .ok (.ifCond .ne 9, 3) := by decide +kernel
theorem dX8_odds_119 : decode cX8_odds 119 = .ok (.iload 5, 2) := by decide +kernel
theorem dX8_odds_121 : decode cX8_odds 121 = .ok (.i2l, 1) := by decide +kernel
theorem dX8_odds_122 : decode cX8_odds 122 = .ok (.goto 6, 3) := by decide +kernel
theorem dX8_odds_125 : decode cX8_odds 125 = .ok (.iload 6, 2) := by decide +kernel
theorem dX8_odds_127 : decode cX8_odds 127 = .ok (.i2l, 1) := by decide +kernel
theorem dX8_odds_128 : decode cX8_odds 128 = .ok (.lreturn, 1) := by decide +kernel
set_option maxRecDepth 20000 in
theorem ggX8_sheet_X8_sheetAt : GoodIn wsX8_sheet wsX8_sheetAt := goodIn_r _ [6, 7, 8, 9, 5, 10, 30, 31, 32, 33, 34] (by decide +kernel) (by decide +kernel)
set_option maxRecDepth 20000 in
theorem gX8_sheet_X8_sheetAt : GoodIn wsX8_sheet (wsV RX8 45 RX8 yX8_sheetAt wsX8_sheetAt) := goodIn_app (goodIn_of _ (by decide +kernel)) ggX8_sheet_X8_sheetAt
set_option maxRecDepth 20000 in
theorem ggX8_sheet_X8_isOneOf : GoodIn wsX8_sheet wsX8_isOneOf := goodIn_r _ [10] (by decide +kernel) (by decide +kernel)
set_option maxRecDepth 20000 in
theorem gX8_sheet_X8_isOneOf : GoodIn wsX8_sheet (va_wsS RX8 49 yX8_isOneOf wsX8_isOneOf) := goodIn_app (goodIn_of _ (by decide +kernel)) ggX8_sheet_X8_isOneOf
set_option maxRecDepth 20000 in
theorem ggX8_sheet_X8_faulted : GoodIn wsX8_sheet wsX8_faulted := goodIn_r _ [14, 1, 30, 31, 32, 33, 34] (by decide +kernel) (by decide +kernel)
set_option maxRecDepth 20000 in
theorem gX8_sheet_X8_faulted : GoodIn wsX8_sheet (wsV RX8 57 RX8 yX8_faulted wsX8_faulted) := goodIn_app (goodIn_of _ (by decide +kernel)) ggX8_sheet_X8_faulted
set_option maxRecDepth 20000 in
theorem ggX8_sheet_X5_renew : GoodIn wsX8_sheet wsX5_renew := goodIn_r _ [18, 19, 20, 21, 22, 23, 24, 25, 26, 27, 28, 29, 35, 36, 37] (by decide +kernel) (by decide +kernel)
set_option maxRecDepth 20000 in
theorem gX8_sheet_X5_renew_n197 : GoodIn wsX8_sheet (wsX5_renew) := ggX8_sheet_X5_renew
theorem dX8_sheet_0 : decode cX8_sheet 0 = .ok (.aload_n 0, 1) := by decide +kernel
theorem dX8_sheet_1 : decode cX8_sheet 1 = .ok (.iconst 0, 1) := by decide +kernel
theorem dX8_sheet_2 : decode cX8_sheet 2 = .ok (.putfield 41, 3) := by decide +kernel
theorem dX8_sheet_5 : decode cX8_sheet 5 = .ok (.aload_n 0, 1) := by decide +kernel
theorem dX8_sheet_6 : decode cX8_sheet 6 = .ok (.iload_n 1, 1) := by decide +kernel
theorem dX8_sheet_7 : decode cX8_sheet 7 = .ok (.invokevirtual 45, 3) := by decide +kernel
theorem dX8_sheet_10 : decode cX8_sheet 10 = .ok (.astore 4, 2) := by decide +kernel
theorem dX8_sheet_12 : decode cX8_sheet 12 = .ok (.aload 4, 2) := by decide +kernel
theorem dX8_sheet_14 : decode cX8_sheet 14 = .ok (.ifnonnull 5, 3) := by decide +kernel
theorem dX8_sheet_17 : decode cX8_sheet 17 = .ok (.iconst (-1), 1) := by decide +kernel
theorem dX8_sheet_18 : decode cX8_sheet 18 = .ok (.ireturn, 1) := by decide +kernel
theorem dX8_sheet_19 : decode cX8_sheet 19 = .ok (.iload_n 2, 1) := by decide +kernel
theorem dX8_sheet_20 : decode cX8_sheet 20 = .ok (.iconst 3, 1) := by decide +kernel
theorem dX8_sheet_21 : decode cX8_sheet 21 = .ok (.invokestatic 49, 3) := by decide +kernel
theorem dX8_sheet_24 : decode cX8_sheet 24 = .ok (.ifCond .eq 9, 3) := by decide +kernel
theorem dX8_sheet_27 : decode cX8_sheet 27 = .ok (.iload_n 3, 1) := by decide +kernel
theorem dX8_sheet_28 : decode cX8_sheet 28 = .ok (.bipush 60, 2) := by decide +kernel
theorem dX8_sheet_30 : decode cX8_sheet 30 = .ok (.if_icmp .le 6, 3) := by decide +kernel
theorem dX8_sheet_33 : decode cX8_sheet 33 = .ok (.bipush (-2), 2) := by decide +kernel
theorem dX8_sheet_35 : decode cX8_sheet 35 = .ok (.ireturn, 1) := by decide +kernel
theorem dX8_sheet_36 : decode cX8_sheet 36 = .ok (.iload_n 3, 1) := by decide +kernel
theorem dX8_sheet_37 : decode cX8_sheet 37 = .ok (.ifCond .ge 9, 3) := by decide +kernel
theorem dX8_sheet_40 : decode cX8_sheet 40 = .ok (.aload_n 0, 1) := by decide +kernel
theorem dX8_sheet_41 : decode cX8_sheet 41 = .ok (.iconst 4, 1) := by decide +kernel
theorem dX8_sheet_42 : decode cX8_sheet 42 = .ok (.invokevirtual 57, 3) := by decide +kernel
theorem dX8_sheet_45 : decode cX8_sheet 45 = .ok (.ireturn, 1) := by decide +kernel
theorem dX8_sheet_46 : decode cX8_sheet 46 = .ok (.aload 4, 2) := by decide +kernel
theorem dX8_sheet_48 : decode cX8_sheet 48 = .ok (.iload_n 2, 1) := by decide +kernel
theorem dX8_sheet_49 : decode cX8_sheet 49 = .ok (.iload_n 3, 1) := by decide +kernel
theorem dX8_sheet_50 : decode cX8_sheet 50 = .ok (.invokevirtual 197, 3) := by decide +kernel
theorem dX8_sheet_53 : decode cX8_sheet 53 = .ok (.iconst 1, 1) := by decide +kernel
theorem dX8_sheet_54 : decode cX8_sheet 54 = .ok (.ireturn, 1) := by decide +kernel
set_option maxRecDepth 20000 in
theorem ggX8_lose_X8_sheetAt : GoodIn wsX8_lose wsX8_sheetAt := goodIn_r _ [5, 6, 7, 8, 4, 9, 19, 20, 21, 22, 23] (by decide +kernel) (by decide +kernel)
set_option maxRecDepth 20000 in
theorem gX8_lose_X8_sheetAt : GoodIn wsX8_lose (wsV RX8 45 RX8 yX8_sheetAt wsX8_sheetAt) := goodIn_app (goodIn_of _ (by decide +kernel)) ggX8_lose_X8_sheetAt
set_option maxRecDepth 20000 in
theorem ggX8_lose_X5_hasNothing : GoodIn wsX8_lose wsX5_hasNothing := goodIn_r _ [13, 14, 24, 25, 26] (by decide +kernel) (by decide +kernel)
set_option maxRecDepth 20000 in
theorem gX8_lose_X5_hasNothing_n200 : GoodIn wsX8_lose (wsX5_hasNothing) := ggX8_lose_X5_hasNothing
set_option maxRecDepth 20000 in
theorem ggX8_lose_X5_clear : GoodIn wsX8_lose wsX5_clear := goodIn_r _ [17, 14, 18, 24, 25, 26] (by decide +kernel) (by decide +kernel)
set_option maxRecDepth 20000 in
theorem gX8_lose_X5_clear_n203 : GoodIn wsX8_lose (wsX5_clear) := ggX8_lose_X5_clear
theorem dX8_lose_0 : decode cX8_lose 0 = .ok (.aload_n 0, 1) := by decide +kernel
theorem dX8_lose_1 : decode cX8_lose 1 = .ok (.iload_n 1, 1) := by decide +kernel
theorem dX8_lose_2 : decode cX8_lose 2 = .ok (.invokevirtual 45, 3) := by decide +kernel
theorem dX8_lose_5 : decode cX8_lose 5 = .ok (.astore_n 2, 1) := by decide +kernel
theorem dX8_lose_6 : decode cX8_lose 6 = .ok (.aload_n 2, 1) := by decide +kernel
theorem dX8_lose_7 : decode cX8_lose 7 = .ok (.ifnonnull 5, 3) := by decide +kernel
theorem dX8_lose_10 : decode cX8_lose 10 = .ok (.iconst (-1), 1) := by decide +kernel
theorem dX8_lose_11 : decode cX8_lose 11 = .ok (.ireturn, 1) := by decide +kernel
theorem dX8_lose_12 : decode cX8_lose 12 = .ok (.aload_n 2, 1) := by decide +kernel
theorem dX8_lose_13 : decode cX8_lose 13 = .ok (.invokevirtual 200, 3) := by decide +kernel
theorem dX8_lose_16 : decode cX8_lose 16 = .ok (.ifCond .eq 5, 3) := by decide +kernel
theorem dX8_lose_19 : decode cX8_lose 19 = .ok (.iconst 0, 1) := by decide +kernel
theorem dX8_lose_20 : decode cX8_lose 20 = .ok (.ireturn, 1) := by decide +kernel
theorem dX8_lose_21 : decode cX8_lose 21 = .ok (.aload_n 2, 1) := by decide +kernel
theorem dX8_lose_22 : decode cX8_lose 22 = .ok (.invokevirtual 203, 3) := by decide +kernel
theorem dX8_lose_25 : decode cX8_lose 25 = .ok (.iconst 1, 1) := by decide +kernel
theorem dX8_lose_26 : decode cX8_lose 26 = .ok (.ireturn, 1) := by decide +kernel
set_option maxRecDepth 20000 in
theorem ggX8_put_X8_sheetAt : GoodIn wsX8_put wsX8_sheetAt := goodIn_r _ [6, 7, 8, 9, 5, 10, 33, 34, 35, 36, 37] (by decide +kernel) (by decide +kernel)
set_option maxRecDepth 20000 in
theorem gX8_put_X8_sheetAt : GoodIn wsX8_put (wsV RX8 45 RX8 yX8_sheetAt wsX8_sheetAt) := goodIn_app (goodIn_of _ (by decide +kernel)) ggX8_put_X8_sheetAt
set_option maxRecDepth 20000 in
theorem ggX8_put_X5_hasNothing : GoodIn wsX8_put wsX5_hasNothing := goodIn_r _ [14, 15, 38, 39, 40] (by decide +kernel) (by decide +kernel)
set_option maxRecDepth 20000 in
theorem gX8_put_X5_hasNothing_n200 : GoodIn wsX8_put (wsX5_hasNothing) := ggX8_put_X5_hasNothing
set_option maxRecDepth 20000 in
theorem ggX8_put_X8_faulted : GoodIn wsX8_put wsX8_faulted := goodIn_r _ [19, 1, 33, 34, 35, 36, 37] (by decide +kernel) (by decide +kernel)
set_option maxRecDepth 20000 in
theorem gX8_put_X8_faulted : GoodIn wsX8_put (wsV RX8 57 RX8 yX8_faulted wsX8_faulted) := goodIn_app (goodIn_of _ (by decide +kernel)) ggX8_put_X8_faulted
set_option maxRecDepth 20000 in
theorem ggX8_put_X5_has : GoodIn wsX8_put wsX5_has := goodIn_r _ [22, 23, 9, 5, 10, 38, 39, 40] (by decide +kernel) (by decide +kernel)
set_option maxRecDepth 20000 in
theorem gX8_put_X5_has_n206 : GoodIn wsX8_put (wsX5_has) := ggX8_put_X5_has
set_option maxRecDepth 20000 in
theorem ggX8_put_X5_set : GoodIn wsX8_put wsX5_set := goodIn_r _ [26, 27, 28, 20, 21, 12, 22, 23, 9, 5, 10, 29, 30, 31, 32, 15, 38, 39, 40] (by decide +kernel) (by decide +kernel)
set_option maxRecDepth 20000 in
theorem gX8_put_X5_set_n207 : GoodIn wsX8_put (wsX5_set) := ggX8_put_X5_set
theorem dX8_put_0 : decode cX8_put 0 = .ok (.aload_n 0, 1) := by decide +kernel
theorem dX8_put_1 : decode cX8_put 1 = .ok (.iconst 0, 1) := by decide +kernel
theorem dX8_put_2 : decode cX8_put 2 = .ok (.putfield 41, 3) := by decide +kernel
theorem dX8_put_5 : decode cX8_put 5 = .ok (.aload_n 0, 1) := by decide +kernel
theorem dX8_put_6 : decode cX8_put 6 = .ok (.iload_n 1, 1) := by decide +kernel
theorem dX8_put_7 : decode cX8_put 7 = .ok (.invokevirtual 45, 3) := by decide +kernel
theorem dX8_put_10 : decode cX8_put 10 = .ok (.astore 4, 2) := by decide +kernel
theorem dX8_put_12 : decode cX8_put 12 = .ok (.aload 4, 2) := by decide +kernel
theorem dX8_put_14 : decode cX8_put 14 = .ok (.ifnonnull 5, 3) := by decide +kernel
theorem dX8_put_17 : decode cX8_put 17 = .ok (.iconst (-1), 1) := by decide +kernel
theorem dX8_put_18 : decode cX8_put 18 = .ok (.ireturn, 1) := by decide +kernel
theorem dX8_put_19 : decode cX8_put 19 = .ok (.aload 4, 2) := by decide +kernel
theorem dX8_put_21 : decode cX8_put 21 = .ok (.invokevirtual 200, 3) := by decide +kernel
theorem dX8_put_24 : decode cX8_put 24 = .ok (.ifCond .eq 9, 3) := by decide +kernel
theorem dX8_put_27 : decode cX8_put 27 = .ok (.aload_n 0, 1) := by decide +kernel
theorem dX8_put_28 : decode cX8_put 28 = .ok (.iconst 1, 1) := by decide +kernel
theorem dX8_put_29 : decode cX8_put 29 = .ok (.invokevirtual 57, 3) := by decide +kernel
theorem dX8_put_32 : decode cX8_put 32 = .ok (.ireturn, 1) := by decide +kernel
theorem dX8_put_33 : decode cX8_put 33 = .ok (.aload 4, 2) := by decide +kernel
theorem dX8_put_35 : decode cX8_put 35 = .ok (.iload_n 2, 1) := by decide +kernel
theorem dX8_put_36 : decode cX8_put 36 = .ok (.invokevirtual 206, 3) := by decide +kernel
theorem dX8_put_39 : decode cX8_put 39 = .ok (.ifCond .ne 9, 3) := by decide +kernel
theorem dX8_put_42 : decode cX8_put 42 = .ok (.aload_n 0, 1) := by decide +kernel
theorem dX8_put_43 : decode cX8_put 43 = .ok (.iconst 3, 1) := by decide +kernel
theorem dX8_put_44 : decode cX8_put 44 = .ok (.invokevirtual 57, 3) := by decide +kernel
theorem dX8_put_47 : decode cX8_put 47 = .ok (.ireturn, 1) := by decide +kernel
theorem dX8_put_48 : decode cX8_put 48 = .ok (.aload 4, 2) := by decide +kernel
theorem dX8_put_50 : decode cX8_put 50 = .ok (.iload_n 2, 1) := by decide +kernel
theorem dX8_put_51 : decode cX8_put 51 = .ok (.iload_n 3, 1) := by decide +kernel
theorem dX8_put_52 : decode cX8_put 52 = .ok (.invokevirtual 207, 3) := by decide +kernel
theorem dX8_put_55 : decode cX8_put 55 = .ok (.iconst 1, 1) := by decide +kernel
theorem dX8_put_56 : decode cX8_put 56 = .ok (.ireturn, 1) := by decide +kernel
set_option maxRecDepth 20000 in
theorem ggX8_cell_X8_sheetAt : GoodIn wsX8_cell wsX8_sheetAt := goodIn_r _ [7, 8, 9, 10, 6, 11, 34, 35, 36, 37, 38] (by decide +kernel) (by decide +kernel)
set_option maxRecDepth 20000 in
theorem gX8_cell_X8_sheetAt : GoodIn wsX8_cell (wsV RX8 45 RX8 yX8_sheetAt wsX8_sheetAt) := goodIn_app (goodIn_of _ (by decide +kernel)) ggX8_cell_X8_sheetAt
set_option maxRecDepth 20000 in
theorem ggX8_cell_X8_isOneOf : GoodIn wsX8_cell wsX8_isOneOf := goodIn_r _ [11] (by decide +kernel) (by decide +kernel)
set_option maxRecDepth 20000 in
theorem gX8_cell_X8_isOneOf : GoodIn wsX8_cell (va_wsS RX8 49 yX8_isOneOf wsX8_isOneOf) := goodIn_app (goodIn_of _ (by decide +kernel)) ggX8_cell_X8_isOneOf
set_option maxRecDepth 20000 in
theorem ggX8_cell_X5_faultOfTaking : GoodIn wsX8_cell wsX5_faultOfTaking := goodIn_r _ [15, 16, 17, 18, 19, 13, 20, 21, 22, 23, 24, 25, 39, 40, 41] (by decide +kernel) (by decide +kernel)
set_option maxRecDepth 20000 in
theorem gX8_cell_X5_faultOfTaking_n53 : GoodIn wsX8_cell (wsX5_faultOfTaking) := ggX8_cell_X5_faultOfTaking
set_option maxRecDepth 20000 in
theorem ggX8_cell_X5_at : GoodIn wsX8_cell wsX5_at := goodIn_r _ [28, 29, 30, 31, 32, 13, 33, 25, 10, 6, 11, 39, 40, 41] (by decide +kernel) (by decide +kernel)
set_option maxRecDepth 20000 in
theorem gX8_cell_X5_at_n209 : GoodIn wsX8_cell (wsX5_at) := ggX8_cell_X5_at
theorem dX8_cell_0 : decode cX8_cell 0 = .ok (.aload_n 0, 1) := by decide +kernel
theorem dX8_cell_1 : decode cX8_cell 1 = .ok (.iconst 0, 1) := by decide +kernel
theorem dX8_cell_2 : decode cX8_cell 2 = .ok (.putfield 41, 3) := by decide +kernel
theorem dX8_cell_5 : decode cX8_cell 5 = .ok (.aload_n 0, 1) := by decide +kernel
theorem dX8_cell_6 : decode cX8_cell 6 = .ok (.iload_n 1, 1) := by decide +kernel
theorem dX8_cell_7 : decode cX8_cell 7 = .ok (.invokevirtual 45, 3) := by decide +kernel
theorem dX8_cell_10 : decode cX8_cell 10 = .ok (.astore 4, 2) := by decide +kernel
theorem dX8_cell_12 : decode cX8_cell 12 = .ok (.aload 4, 2) := by decide +kernel
theorem dX8_cell_14 : decode cX8_cell 14 = .ok (.ifnull 11, 3) := by decide +kernel
theorem dX8_cell_17 : decode cX8_cell 17 = .ok (.iload_n 3, 1) := by decide +kernel
theorem dX8_cell_18 : decode cX8_cell 18 = .ok (.iconst 3, 1) := by decide +kernel
theorem dX8_cell_19 : decode cX8_cell 19 = .ok (.invokestatic 49, 3) := by decide +kernel
theorem dX8_cell_22 : decode cX8_cell 22 = .ok (.ifCond .ne 7, 3) := by decide +kernel
theorem dX8_cell_25 : decode cX8_cell 25 = .ok (.ldc2_w 195, 3) := by decide +kernel
theorem dX8_cell_28 : decode cX8_cell 28 = .ok (.lreturn, 1) := by decide +kernel
theorem dX8_cell_29 : decode cX8_cell 29 = .ok (.aload_n 0, 1) := by decide +kernel
theorem dX8_cell_30 : decode cX8_cell 30 = .ok (.aload 4, 2) := by decide +kernel
theorem dX8_cell_32 : decode cX8_cell 32 = .ok (.iload_n 3, 1) := by decide +kernel
theorem dX8_cell_33 : decode cX8_cell 33 = .ok (.iload_n 2, 1) := by decide +kernel
theorem dX8_cell_34 : decode cX8_cell 34 = .ok (.iconst 1, 1) := by decide +kernel
theorem dX8_cell_35 : decode cX8_cell 35 = .ok (.invokevirtual 53, 3) := by decide +kernel
theorem dX8_cell_38 : decode cX8_cell 38 = .ok (.putfield 41, 3) := by decide +kernel
theorem dX8_cell_41 : decode cX8_cell 41 = .ok (.aload_n 0, 1) := by decide +kernel
theorem dX8_cell_42 : decode cX8_cell 42 = .ok (.getfield 41, 3) := by decide +kernel
theorem dX8_cell_45 : decode cX8_cell 45 = .ok (.ifCond .eq 9, 3) := by decide +kernel
theorem dX8_cell_48 : decode cX8_cell 48 = .ok (.ldc2_w 195, 3) := by decide +kernel
theorem dX8_cell_51 : decode cX8_cell 51 = .ok (.goto 10, 3) := by decide +kernel
theorem dX8_cell_54 : decode cX8_cell 54 = .ok (.aload 4, 2) := by decide +kernel
theorem dX8_cell_56 : decode cX8_cell 56 = .ok (.iload_n 2, 1) := by decide +kernel
theorem dX8_cell_57 : decode cX8_cell 57 = .ok (.invokevirtual 209, 3) := by decide +kernel
theorem dX8_cell_60 : decode cX8_cell 60 = .ok (.i2l, 1) := by decide +kernel
theorem dX8_cell_61 : decode cX8_cell 61 = .ok (.lreturn, 1) := by decide +kernel
set_option maxRecDepth 20000 in
theorem ggX8_copy_X8_sheetAt : GoodIn wsX8_copy wsX8_sheetAt := goodIn_r _ [10, 11, 12, 13, 9, 14, 28, 29, 30, 31, 32] (by decide +kernel) (by decide +kernel)
set_option maxRecDepth 20000 in
theorem gX8_copy_X8_sheetAt : GoodIn wsX8_copy (wsV RX8 45 RX8 yX8_sheetAt wsX8_sheetAt) := goodIn_app (goodIn_of _ (by decide +kernel)) ggX8_copy_X8_sheetAt
set_option maxRecDepth 20000 in
theorem ggX8_copy_X5_hasNothing : GoodIn wsX8_copy wsX5_hasNothing := goodIn_r _ [18, 19, 33, 34, 35] (by decide +kernel) (by decide +kernel)
set_option maxRecDepth 20000 in
theorem gX8_copy_X5_hasNothing_n200 : GoodIn wsX8_copy (wsX5_hasNothing) := ggX8_copy_X5_hasNothing
set_option maxRecDepth 20000 in
theorem ggX8_copy_X8_faulted : GoodIn wsX8_copy wsX8_faulted := goodIn_r _ [23, 1, 28, 29, 30, 31, 32] (by decide +kernel) (by decide +kernel)
set_option maxRecDepth 20000 in
theorem gX8_copy_X8_faulted : GoodIn wsX8_copy (wsV RX8 57 RX8 yX8_faulted wsX8_faulted) := goodIn_app (goodIn_of _ (by decide +kernel)) ggX8_copy_X8_faulted
set_option maxRecDepth 20000 in
theorem ggX8_copy_X5_reaches : GoodIn wsX8_copy wsX5_reaches := goodIn_r _ [26, 27, 33, 34, 35] (by decide +kernel) (by decide +kernel)
set_option maxRecDepth 20000 in
theorem gX8_copy_X5_reaches_n214 : GoodIn wsX8_copy (wsX5_reaches) := ggX8_copy_X5_reaches
theorem dX8_copy_0 : decode cX8_copy 0 = .ok (.aload_n 0, 1) := by decide +kernel
theorem dX8_copy_1 : decode cX8_copy 1 = .ok (.iconst 0, 1) := by decide +kernel
theorem dX8_copy_2 : decode cX8_copy 2 = .ok (.putfield 41, 3) := by decide +kernel
theorem dX8_copy_5 : decode cX8_copy 5 = .ok (.aload_n 0, 1) := by decide +kernel
theorem dX8_copy_6 : decode cX8_copy 6 = .ok (.iload_n 1, 1) := by decide +kernel
theorem dX8_copy_7 : decode cX8_copy 7 = .ok (.invokevirtual 45, 3) := by decide +kernel
theorem dX8_copy_10 : decode cX8_copy 10 = .ok (.astore 6, 2) := by decide +kernel
theorem dX8_copy_12 : decode cX8_copy 12 = .ok (.aload_n 0, 1) := by decide +kernel
theorem dX8_copy_13 : decode cX8_copy 13 = .ok (.iload_n 3, 1) := by decide +kernel
theorem dX8_copy_14 : decode cX8_copy 14 = .ok (.invokevirtual 45, 3) := by decide +kernel
theorem dX8_copy_17 : decode cX8_copy 17 = .ok (.astore 7, 2) := by decide +kernel
theorem dX8_copy_19 : decode cX8_copy 19 = .ok (.aload 6, 2) := by decide +kernel
theorem dX8_copy_21 : decode cX8_copy 21 = .ok (.ifnull 8, 3) := by decide +kernel
theorem dX8_copy_24 : decode cX8_copy 24 = .ok (.aload 7, 2) := by decide +kernel
theorem dX8_copy_26 : decode cX8_copy 26 = .ok (.ifnonnull 5, 3) := by decide +kernel
theorem dX8_copy_29 : decode cX8_copy 29 = .ok (.iconst (-1), 1) := by decide +kernel
theorem dX8_copy_30 : decode cX8_copy 30 = .ok (.ireturn, 1) := by decide +kernel
theorem dX8_copy_31 : decode cX8_copy 31 = .ok (.aload 6, 2) := by decide +kernel
theorem dX8_copy_33 : decode cX8_copy 33 = .ok (.invokevirtual 200, 3) := by decide +kernel
theorem dX8_copy_36 : decode cX8_copy 36 = .ok (.ifCond .ne 11, 3) := by decide +kernel
theorem dX8_copy_39 : decode cX8_copy 39 = .ok (.aload 7, 2) := by decide +kernel
theorem dX8_copy_41 : decode cX8_copy 41 = .ok (.invokevirtual 200, 3) := by decide +kernel
theorem dX8_copy_44 : decode cX8_copy 44 = .ok (.ifCond .eq 9, 3) := by decide +kernel
theorem dX8_copy_47 : decode cX8_copy 47 = .ok (.aload_n 0, 1) := by decide +kernel
theorem dX8_copy_48 : decode cX8_copy 48 = .ok (.iconst 1, 1) := by decide +kernel
theorem dX8_copy_49 : decode cX8_copy 49 = .ok (.invokevirtual 57, 3) := by decide +kernel
theorem dX8_copy_52 : decode cX8_copy 52 = .ok (.ireturn, 1) := by decide +kernel
theorem dX8_copy_53 : decode cX8_copy 53 = .ok (.aload 6, 2) := by decide +kernel
theorem dX8_copy_55 : decode cX8_copy 55 = .ok (.getfield 211, 3) := by decide +kernel
theorem dX8_copy_58 : decode cX8_copy 58 = .ok (.aload 7, 2) := by decide +kernel
theorem dX8_copy_60 : decode cX8_copy 60 = .ok (.getfield 211, 3) := by decide +kernel
theorem dX8_copy_63 : decode cX8_copy 63 = .ok (.if_icmp .eq 9, 3) := by decide +kernel
theorem dX8_copy_66 : decode cX8_copy 66 = .ok (.aload_n 0, 1) := by decide +kernel
theorem dX8_copy_67 : decode cX8_copy 67 = .ok (.iconst 2, 1) := by decide +kernel
theorem dX8_copy_68 : decode cX8_copy 68 = .ok (.invokevirtual 57, 3) := by decide +kernel
theorem dX8_copy_71 : decode cX8_copy 71 = .ok (.ireturn, 1) := by decide +kernel
theorem dX8_copy_72 : decode cX8_copy 72 = .ok (.aload 6, 2) := by decide +kernel
theorem dX8_copy_74 : decode cX8_copy 74 = .ok (.iload_n 2, 1) := by decide +kernel
theorem dX8_copy_75 : decode cX8_copy 75 = .ok (.iload 5, 2) := by decide +kernel
theorem dX8_copy_77 : decode cX8_copy 77 = .ok (.invokevirtual 214, 3) := by decide +kernel
theorem dX8_copy_80 : decode cX8_copy 80 = .ok (.ifCond .eq 15, 3) := by decide +kernel
theorem dX8_copy_83 : decode cX8_copy 83 = .ok (.aload 7, 2) := by decide +kernel
theorem dX8_copy_85 : decode cX8_copy 85 = .ok (.iload 4, 2) := by decide +kernel
theorem dX8_copy_87 : decode cX8_copy 87 = .ok (.iload 5, 2) := by decide +kernel
theorem dX8_copy_89 : decode cX8_copy 89 = .ok (.invokevirtual 214, 3) := by decide +kernel
theorem dX8_copy_92 : decode cX8_copy 92 = .ok (.ifCond .ne 9, 3) := by decide +kernel
theorem dX8_copy_95 : decode cX8_copy 95 = .ok (.aload_n 0, 1) := by decide +kernel
theorem dX8_copy_96 : decode cX8_copy 96 = .ok (.iconst 3, 1) := by decide +kernel
theorem dX8_copy_97 : decode cX8_copy 97 = .ok (.invokevirtual 57, 3) := by decide +kernel
theorem dX8_copy_100 : decode cX8_copy 100 = .ok (.ireturn, 1) := by decide +kernel
theorem dX8_copy_101 : decode cX8_copy 101 = .ok (.aload 6, 2) := by decide +kernel
theorem dX8_copy_103 : decode cX8_copy 103 = .ok (.getfield 217, 3) := by decide +kernel
theorem dX8_copy_106 : decode cX8_copy 106 = .ok (.iload_n 2, 1) := by decide +kernel
theorem dX8_copy_107 : decode cX8_copy 107 = .ok (.aload 7, 2) := by decide +kernel
theorem dX8_copy_109 : decode cX8_copy 109 = .ok (.getfield 217, 3) := by decide +kernel
theorem dX8_copy_112 : decode cX8_copy 112 = .ok (.iload 4, 2) := by decide +kernel
theorem dX8_copy_114 : decode cX8_copy 114 = .ok (.iload 5, 2) := by decide +kernel
theorem dX8_copy_116 : decode cX8_copy 116 = .ok (.invokestatic 221, 3) := by decide +kernel
theorem dX8_copy_119 : decode cX8_copy 119 = .ok (.iload 5, 2) := by decide +kernel
theorem dX8_copy_121 : decode cX8_copy 121 = .ok (.ireturn, 1) := by decide +kernel
set_option maxRecDepth 20000 in
theorem ggX8_tell_X6_person : GoodIn wsX8_tell wsX6_person := goodIn_r _ [6, 7, 8, 9, 10, 11, 55, 56, 57, 58, 59, 60, 61, 62] (by decide +kernel) (by decide +kernel)
set_option maxRecDepth 20000 in
theorem gX8_tell_X6_person_n72 : GoodIn wsX8_tell (wsX6_person) := ggX8_tell_X6_person
set_option maxRecDepth 20000 in
theorem ggX8_tell_X0_telling : GoodIn wsX8_tell wsX0_telling := goodIn_r _ [18, 19, 20, 21, 22, 23, 24, 13, 25, 26, 27, 28, 29, 30, 31, 32, 33, 34, 35, 36, 37, 63, 64, 65, 66, 67, 68, 69, 70, 71, 72] (by decide +kernel) (by decide +kernel)
set_option maxRecDepth 20000 in
theorem gX8_tell_X0_telling_u227X0 : GoodIn wsX8_tell (va_wsO RX8 227 RX0 "TaleBans$Herder" ⟨"TaleBans$Herder", "telling", "(LTaleBans$Trace;)I"⟩ yX0_telling wsX0_telling) := goodIn_app (goodIn_of _ (by decide +kernel)) ggX8_tell_X0_telling
set_option maxRecDepth 20000 in
theorem ggX8_tell_X1_telling : GoodIn wsX8_tell wsX1_telling := goodIn_r _ [41, 19, 20, 21, 22, 23, 42, 43, 44, 16, 17, 18, 24, 13, 25, 26, 27, 28, 29, 30, 31, 32, 33, 34, 35, 36, 37, 45, 46, 47, 63, 64, 65, 66, 67, 68, 69, 70, 71, 72] (by decide +kernel) (by decide +kernel)
set_option maxRecDepth 20000 in
theorem gX8_tell_X1_telling_u227X1 : GoodIn wsX8_tell (va_wsO RX8 227 RX1 "TaleBans$Herder" ⟨"TaleBans$Herder", "telling", "(LTaleBans$Trace;)I"⟩ yX1_telling wsX1_telling) := goodIn_app (goodIn_of _ (by decide +kernel)) ggX8_tell_X1_telling
set_option maxRecDepth 20000 in
theorem ggX8_tell_X2_telling : GoodIn wsX8_tell wsX2_telling := goodIn_r _ [28, 29, 30, 31, 32, 27, 33, 34, 19, 20, 21, 22, 23, 35, 36, 37, 64, 65, 66, 67, 68, 69, 70, 71, 72, 63] (by decide +kernel) (by decide +kernel)
set_option maxRecDepth 20000 in
theorem gX8_tell_X2_telling : GoodIn wsX8_tell (wsV RX8 227 RX2 yX2_telling wsX2_telling) := goodIn_app (goodIn_of _ (by decide +kernel)) ggX8_tell_X2_telling
